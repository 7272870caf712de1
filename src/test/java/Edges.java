import java.io.IOException;
import java.util.ArrayList;
import java.util.Arrays;
import java.util.List;
import java.util.Set;
import java.util.TreeSet;

/**
 * Tests by the sentences of the document: each quotes its sentence and tells runs of calls in lines.
 *
 * <pre>
 * book(5, 0) = 0         the answer that is due
 * book(5, 0)             any answer, but no refusal
 * book(0, 0) ! BAD       a refusal
 * "book 5;one 3" = 2     a text, fed and read as a town: its statements
 * "book 0" ! 5           a text with a fault: its place
 * --                     a new object
 * </pre>
 */
final class Edges {
    private final Document document = new Document();
    private String here = "";
    private int asked;
    private int wrong;

    Edges() throws IOException {
    }

    void must(boolean fine, String otherwise) {
        asked++;
        if (!fine) {
            wrong++;
            System.out.println(here + "\n    " + otherwise);
        }
    }

    /** One sentence, or a part of one, and the runs that would go wrong if it were broken. */
    void at(String section, String words, String... lines) {
        here = section + " \"" + words + "\"";
        must(document.quote(section, words), "no such words there");
        must(lines.length > 0, "nothing is tested");
        List<String> run = new ArrayList<>();
        for (String line : lines) {
            if (line.equals("--")) {
                new EdgeRun(this, run).made();
                run = new ArrayList<>();
            } else {
                run.add(line);
            }
        }
        new EdgeRun(this, run).made();
    }

    void terms(String words, String... lines) {
        at("Terms", words, lines);
    }

    void promise(int number, String words, String... lines) {
        at("Promise " + number, words, lines);
    }

    /** Under the sentence told last: the call, with %d in it, at both limits and on both sides of them; far off it is BAD too. */
    void limits(long least, long most, String call, String... ahead) {
        Set<Long> tried = new TreeSet<>();
        for (long v = -1; v <= 1; v++) {
            tried.add(least + v);
            tried.add(most + v);
        }
        for (long far : new long[] {1L << 8, 1L << 16, Integer.MAX_VALUE, Integer.MIN_VALUE}) {
            tried.add(far);
            tried.add((long) (int) (far + least));
            tried.add((long) (int) (far + most));
        }
        for (long v : tried) {
            boolean fine = v >= least && v <= most;
            List<String> run = new ArrayList<>(Arrays.asList(ahead));
            run.add(String.format(call, v) + (fine ? "" : " ! BAD"));
            new EdgeRun(this, run).made();
        }
    }

    /** The same line, so many times. */
    static String[] times(int n, String line, String... behind) {
        List<String> all = new ArrayList<>();
        for (int i = 0; i < n; i++) {
            all.add(line);
        }
        all.addAll(Arrays.asList(behind));
        return all.toArray(new String[0]);
    }

    void end() {
        here = "all sentences";
        must(document.countSections() == 51, "the document has " + document.countSections() + " sections");
        for (String piece : document.unquoted()) {
            here = piece;
            must(false, "no test quotes this");
        }
        System.out.println(wrong == 0 ? asked + " edges are as due" : wrong + " of " + asked + " edges are not as due");
        if (wrong != 0) {
            System.exit(1);
        }
    }
}
