import java.io.IOException;
import java.io.PrintWriter;
import java.io.StringWriter;
import java.net.URL;
import java.net.URLClassLoader;
import java.nio.file.Files;
import java.nio.file.Path;
import java.util.ArrayList;
import java.util.HashMap;
import java.util.List;
import java.util.Map;
import java.util.Set;
import java.util.TreeSet;
import java.util.regex.Matcher;
import java.util.regex.Pattern;
import java.util.stream.Stream;
import javax.tools.ToolProvider;

/** README.md: what it tells of the calls and of the tests must be so. */
public final class ReadmeTest {
    private static final Pattern EXAMPLE = Pattern.compile("(int \\w+ = )?(x\\.\\w+\\(.*\\));\\s*// (-?\\d+)(:.*)?");
    private static final Pattern SIGNATURE = Pattern.compile("public (?:int|long) (\\w+)\\((.*)\\);");
    private static final Pattern REFUSAL = Pattern.compile("\\b(BAD|OTHER|NOTHING|STUCK|FULL)\\b");
    private static final int CALLS = 49;

    private static int wrong;

    private ReadmeTest() {
    }

    private static void must(boolean fine, String otherwise) {
        if (!fine) {
            wrong++;
            System.out.println(otherwise);
        }
    }

    private static String fences(String text, String language) {
        StringBuilder all = new StringBuilder();
        Matcher fence = Pattern.compile("(?ms)^```" + language + "\\n(.*?)^```$").matcher(text);
        while (fence.find()) {
            all.append(fence.group(1));
        }
        return all.toString();
    }

    /** The examples as a program: each told answer is put beside the one that the call gives. */
    private static String programOf(String examples) {
        StringBuilder all = new StringBuilder("public final class ReadmeExamples {\n    public static String wrongOnes() {\n");
        all.append("        StringBuilder wrong = new StringBuilder();\n        long got;\n");
        int told = 0;
        for (String line : examples.split("\n")) {
            Matcher example = EXAMPLE.matcher(line);
            if (!example.matches()) {
                must(line.equals("EachBookOnce x = new EachBookOnce();"), "an example tells no answer: " + line);
                all.append(line).append('\n');
                continue;
            }
            told++;
            String name = example.group(1) == null ? "" : example.group(1).replaceAll("int | = ", "");
            all.append(name.isEmpty() ? "got = " + example.group(2) : line.replaceAll("//.*", "") + " got = " + name).append(";\n");
            all.append("if (got != ").append(example.group(3)).append(") wrong.append(\"")
                    .append(example.group(2)).append(" answers \").append(got).append(\"\\n\");\n");
        }
        must(told >= 30, "the examples could not be read");
        return all.append("        return wrong.toString();\n    }\n}\n").toString();
    }

    private static void examplesAnswerSo(String readme) throws IOException, ReflectiveOperationException {
        Path folder = Files.createTempDirectory("readme");
        Path source = folder.resolve("ReadmeExamples.java");
        Files.writeString(source, programOf(fences(readme, "java")));
        StringWriter said = new StringWriter();
        boolean compiled = ToolProvider.getSystemJavaCompiler().getTask(new PrintWriter(said), null, null,
                List.of("-proc:none", "-d", folder.toString(), "-cp", System.getProperty("java.class.path")), null,
                ToolProvider.getSystemJavaCompiler().getStandardFileManager(null, null, null).getJavaFileObjects(source)).call();
        must(compiled, "the examples do not compile\n" + said);
        if (compiled) {
            try (URLClassLoader loader = new URLClassLoader(new URL[] {folder.toUri().toURL()})) {
                String answers = (String) loader.loadClass("ReadmeExamples").getMethod("wrongOnes").invoke(null);
                must(answers.isEmpty(), "not as the examples tell:\n" + answers);
            }
        }
        try (Stream<Path> files = Files.list(folder)) {
            for (Path file : files.toList()) {
                Files.delete(file);
            }
        }
        Files.delete(folder);
    }

    /** By the call's name the cells of its row in README's tables. */
    private static Map<String, String[]> rowsOfCalls(String readme) {
        Map<String, String[]> all = new HashMap<>();
        for (String line : readme.split("\n")) {
            if (line.startsWith("| `") && line.contains(")` |")) {
                String[] cells = line.substring(1).split("\\|");
                String call = cells[0].replace("`", "").trim();
                must(cells.length == 3, "not three cells: " + line);
                must(all.put(call.substring(0, call.indexOf('(')), cells) == null, "two rows for " + call);
            }
        }
        return all;
    }

    private static void callsAreTheDocuments(String readme, String document) {
        Map<String, String[]> rows = rowsOfCalls(readme);
        Matcher face = SIGNATURE.matcher(document);
        int count = 0;
        while (face.find()) {
            count++;
            String call = face.group(1) + "(" + face.group(2).replaceAll("(int|long|boolean) ", "") + ")";
            String[] cells = rows.get(face.group(1));
            if (cells == null || cells.length != 3) {
                must(false, "no row for " + call);
                continue;
            }
            must(cells[0].trim().equals("`" + call + "`"), cells[0] + " and not " + call);
            must(!cells[1].isBlank(), call + " says nothing");
            List<String> due = refusalsDue(face.group(1), document);
            must(refusalsIn(cells[2]).equals(due), call + " is refused as " + refusalsIn(cells[2]) + " and not " + due);
        }
        must(count == CALLS, "the document's face could not be read");
        must(rows.size() == CALLS, rows.size() + " calls have rows");
    }

    private static List<String> refusalsDue(String name, String document) {
        switch (name) {
            // Its promise names what a SHELF holds, and refuses nothing.
            case "holds": return List.of();
            // Its promise tells them by their numbers alone.
            case "gains": return List.of("BAD", "OTHER", "NOTHING");
            default: return refusalsIn(promiseOf(name, document));
        }
    }

    private static String promiseOf(String name, String document) {
        int start = document.indexOf(": " + name + "\n");
        must(start > 0, "no promise of " + name);
        int end = document.indexOf("\n## ", Math.max(0, start));
        return document.substring(Math.max(0, start), end);
    }

    private static List<String> refusalsIn(String text) {
        List<String> all = new ArrayList<>();
        Matcher refusal = REFUSAL.matcher(text);
        while (refusal.find()) {
            all.add(refusal.group());
        }
        return all;
    }

    private static void refusalsAreTold(String readme) {
        String[] names = {"BAD", "OTHER", "NOTHING", "STUCK", "FULL"};
        for (int i = 0; i < names.length; i++) {
            String row = "(?s).*\\| -" + (2 + i) + " \\| " + names[i] + " \\| [^|]+ \\| `status\\(" + (12 + i) + "\\)` \\|\n.*";
            must(readme.matches(row), "no row for " + names[i]);
        }
    }

    private static void testsAreTold(String readme) throws IOException {
        must(fences(readme, "sh").startsWith(".ci/run\n"), "the command that runs the tests is not told");
        must(Files.isExecutable(Path.of(".ci/run")), ".ci/run can't be run");
        Set<String> told = new TreeSet<>();
        Matcher row = Pattern.compile("(?m)^\\| (\\w+Test) \\| [^|]+ \\|$").matcher(readme);
        while (row.find()) {
            told.add(row.group(1));
        }
        Set<String> there = new TreeSet<>();
        try (Stream<Path> files = Files.list(Path.of("src/test/java"))) {
            files.map(f -> f.getFileName().toString()).filter(f -> f.endsWith("Test.java")).forEach(f -> there.add(f.replace(".java", "")));
        }
        must(told.equals(there), "the tests are " + there + ", told are " + told);
    }

    public static void main(String[] args) throws IOException, ReflectiveOperationException {
        String readme = Files.readString(Path.of("README.md"));
        String document = Files.readString(Path.of("../shared/DOC.md"));
        examplesAnswerSo(readme);
        callsAreTheDocuments(readme, document);
        refusalsAreTold(readme);
        testsAreTold(readme);
        System.out.println(wrong == 0 ? "README.md tells what is so" : wrong + " things in README.md are not so");
        if (wrong != 0) {
            System.exit(1);
        }
    }
}
