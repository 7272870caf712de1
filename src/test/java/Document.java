import java.io.IOException;
import java.nio.file.Files;
import java.nio.file.Path;
import java.util.ArrayList;
import java.util.LinkedHashMap;
import java.util.List;
import java.util.Map;

/** The document's Terms and promises, and which of their words a test has quoted. */
final class Document {
    private final Map<String, String> sections = new LinkedHashMap<>();
    private final Map<String, boolean[]> quoted = new LinkedHashMap<>();

    Document() throws IOException {
        String text = Files.readString(Path.of("../shared/DOC.md"));
        for (String part : text.split("(?m)^## ")) {
            int end = part.indexOf('\n');
            String name = part.substring(0, Math.max(0, end)).replaceFirst(":.*", "").trim();
            if (name.equals("Terms") || name.startsWith("Promise ")) {
                sections.put(name, plain(part.substring(end)));
            }
        }
        for (Map.Entry<String, String> section : sections.entrySet()) {
            quoted.put(section.getKey(), new boolean[section.getValue().length()]);
        }
    }

    /** Without headings, fences and the promise's own signature, and with single blanks. */
    private static String plain(String text) {
        return text.replaceAll("(?m)^(```|====|THE TOWN).*$", "").replaceAll("`[^`]*`: ", "").replaceAll("\\s+", " ").trim();
    }

    int countSections() {
        return sections.size();
    }

    /** Where a quote stands more than once, the first place that was not quoted yet is meant; false: it stands nowhere. */
    boolean quote(String section, String words) {
        String text = sections.getOrDefault(section, "");
        int first = text.indexOf(words);
        if (first < 0) {
            return false;
        }
        boolean[] marks = quoted.get(section);
        int place = first;
        while (place >= 0 && isQuoted(marks, place, words.length())) {
            place = text.indexOf(words, place + 1);
        }
        for (int i = Math.max(place, first); i < Math.max(place, first) + words.length(); i++) {
            marks[i] = true;
        }
        return true;
    }

    private static boolean isQuoted(boolean[] marks, int from, int length) {
        for (int i = from; i < from + length; i++) {
            if (!marks[i]) {
                return false;
            }
        }
        return true;
    }

    /** The pieces with a letter or a digit that no test has quoted. */
    List<String> unquoted() {
        List<String> all = new ArrayList<>();
        for (Map.Entry<String, String> section : sections.entrySet()) {
            boolean[] marks = quoted.get(section.getKey());
            StringBuilder piece = new StringBuilder();
            for (int i = 0; i <= marks.length; i++) {
                if (i < marks.length && !marks[i]) {
                    piece.append(section.getValue().charAt(i));
                } else {
                    if (piece.toString().matches(".*[A-Za-z0-9].*")) {
                        all.add(section.getKey() + ": " + piece);
                    }
                    piece.setLength(0);
                }
            }
        }
        return all;
    }
}
