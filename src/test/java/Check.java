import java.util.function.LongSupplier;

/** What the tests have in common: due answers, refusals that change nothing, and texts for the tape. */
final class Check {
    static final int BAD = -2;
    static final int OTHER = -3;
    static final int NOTHING = -4;
    static final int STUCK = -5;
    static final int FULL = -6;

    private int wrong;
    private int asked;

    void due(String call, long got, long want) {
        asked++;
        if (got != want) {
            wrong++;
            System.out.println(call + " answered " + got + ", due is " + want);
        }
    }

    void same(String what, String got, String want) {
        asked++;
        if (!got.equals(want)) {
            wrong++;
            System.out.println(what + " is\n  " + got + "\ndue is\n  " + want);
        }
    }

    /** The call answers the refusal's number, and one more of it is counted; that nothing else changes is seen by EdgeRun. */
    void refused(EachBookOnce x, int kind, String call, LongSupplier made) {
        refusedAs(x, kind, kind, call, made);
    }

    void refusedAs(EachBookOnce x, int kind, long answer, String call, LongSupplier made) {
        int counter = 10 - kind;
        int before = x.status(counter);
        due(call, made.getAsLong(), answer);
        due("status(" + counter + ") behind " + call, x.status(counter), before + 1);
    }

    /** All that the face can tell of the object without a refusal, but for the refusals' counts. */
    static String picture(EachBookOnce x) {
        StringBuilder all = new StringBuilder("status");
        for (int what = 0; what <= 8; what++) {
            all.append(' ').append(x.status(what));
        }
        int books = x.status(0);
        int people = x.status(2);
        for (int b = 0; b < books; b++) {
            all.append(" book");
            for (int what = 0; what <= 4; what++) {
                all.append(' ').append(x.bookOf(b, what));
            }
        }
        for (int p = 0; p < people; p++) {
            all.append(" one");
            for (int what = 0; what <= 4; what++) {
                all.append(' ').append(x.oneOf(p, what));
            }
            for (int b = 0; b < books; b++) {
                all.append(' ').append(x.known(p, b));
            }
        }
        for (int s = 0; s < 8; s++) {
            int held = x.holds(s);
            all.append(" shelf ").append(held).append(' ').append(held >= 10 ? x.says(s, 0) : 0);
            // An object is promised 512 calls: a look at all forty elements would cost too many.
            for (int i = 0; i < 8 && held >= 0 && held < 10; i++) {
                all.append(' ').append(x.element(s, i));
            }
        }
        return all.toString();
    }

    static void feed(EachBookOnce x, String text) {
        for (int i = 0; i < text.length(); i += 4) {
            int n = Math.min(4, text.length() - i);
            int v = 0;
            for (int j = i; j < i + n; j++) {
                v = v << 8 | text.charAt(j);
            }
            x.feed(v, n);
        }
    }

    static int town(EachBookOnce x, String text) {
        x.wipe();
        feed(x, text);
        return x.town();
    }

    /** A SEED whose draws below 20 are below these, or, for those told below 0, are 1 at least. */
    static int seedBy(int... below) {
        for (int seed = 0; seed < 100000; seed++) {
            int next = seed;
            boolean fits = true;
            for (int b : below) {
                next = next * 1103515245 + 12345;
                int draw = (next >>> 16) % 20;
                fits = fits && (b < 0 ? draw >= 1 : draw < b);
            }
            if (fits) {
                return seed;
            }
        }
        throw new IllegalStateException("no such seed");
    }

    static EachBookOnce of(String text) {
        EachBookOnce x = new EachBookOnce();
        int count = town(x, text);
        if (count < 1) {
            throw new IllegalStateException("the test's own town has a fault: " + text + " " + count);
        }
        return x;
    }

    static void row(EachBookOnce x, int s, int sort, long... elements) {
        x.row(s, sort, elements.length);
        for (int i = 0; i < elements.length; i++) {
            x.set(s, i, elements[i]);
        }
    }

    void end() {
        System.out.println(wrong == 0 ? asked + " answers are as due" : wrong + " of " + asked + " answers are not as due");
        if (wrong != 0) {
            System.exit(1);
        }
    }
}
