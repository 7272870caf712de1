import java.util.function.LongSupplier;

/** What the tests have in common: due answers, refusals that change nothing, and texts for the tape. */
final class Check {
    static final int BAD = -2;
    static final int OTHER = -3;
    static final int NOTHING = -4;
    static final int STUCK = -5;
    static final int FULL = -6;

    private int wrong;
    private int asked;

    void due(String call, long got, long want) {
        asked++;
        if (got != want) {
            wrong++;
            System.out.println(call + " answered " + got + ", due is " + want);
        }
    }

    void same(String what, String got, String want) {
        asked++;
        if (!got.equals(want)) {
            wrong++;
            System.out.println(what + " is\n  " + got + "\ndue is\n  " + want);
        }
    }

    /** The call answers the refusal's number, one more of it is counted, and all else is as it was. */
    void refused(EachBookOnce x, int kind, String call, LongSupplier made) {
        refusedAs(x, kind, kind, call, made);
    }

    void refusedAs(EachBookOnce x, int kind, long answer, String call, LongSupplier made) {
        String before = picture(x);
        int[] counts = counts(x);
        due(call, made.getAsLong(), answer);
        same("the town behind " + call, picture(x), before);
        for (int i = 0; i < counts.length; i++) {
            due("status(" + (12 + i) + ") behind " + call, x.status(12 + i), counts[i] + (kind == -2 - i ? 1 : 0));
        }
    }

    static int[] counts(EachBookOnce x) {
        int[] counts = new int[5];
        for (int i = 0; i < 5; i++) {
            counts[i] = x.status(12 + i);
        }
        return counts;
    }

    /** All that the face can tell of the object without a refusal, but for the refusals' counts. */
    static String picture(EachBookOnce x) {
        StringBuilder all = new StringBuilder("status");
        for (int what = 0; what <= 8; what++) {
            all.append(' ').append(x.status(what));
        }
        for (int b = 0; b < x.status(0); b++) {
            all.append(" book");
            for (int what = 0; what <= 4; what++) {
                all.append(' ').append(x.bookOf(b, what));
            }
        }
        for (int p = 0; p < x.status(2); p++) {
            all.append(" one");
            for (int what = 0; what <= 4; what++) {
                all.append(' ').append(x.oneOf(p, what));
            }
            for (int b = 0; b < x.status(0); b++) {
                all.append(' ').append(x.known(p, b));
            }
        }
        for (int s = 0; s < 8; s++) {
            all.append(" shelf ").append(x.holds(s));
            all.append(' ').append(x.holds(s) >= 10 ? x.says(s, 0) : 0);
            for (int i = 0; i < 40 && x.holds(s) >= 0 && x.holds(s) < 10; i++) {
                all.append(' ').append(x.element(s, i));
            }
        }
        return all.toString();
    }

    static void feed(EachBookOnce x, String text) {
        for (int i = 0; i < text.length(); i++) {
            x.feed(text.charAt(i), 1);
        }
    }

    static int town(EachBookOnce x, String text) {
        x.wipe();
        feed(x, text);
        return x.town();
    }

    /** A SEED whose draws below 20 are below these, or, for those told below 0, are 1 at least. */
    static int seedBy(int... below) {
        for (int seed = 0; seed < 100000; seed++) {
            int next = seed;
            boolean fits = true;
            for (int b : below) {
                next = next * 1103515245 + 12345;
                int draw = (next >>> 16) % 20;
                fits = fits && (b < 0 ? draw >= 1 : draw < b);
            }
            if (fits) {
                return seed;
            }
        }
        throw new IllegalStateException("no such seed");
    }

    static EachBookOnce of(String text) {
        EachBookOnce x = new EachBookOnce();
        int count = town(x, text);
        if (count < 1) {
            throw new IllegalStateException("the test's own town has a fault: " + text + " " + count);
        }
        return x;
    }

    static void row(EachBookOnce x, int s, int sort, long... elements) {
        x.row(s, sort, elements.length);
        for (int i = 0; i < elements.length; i++) {
            x.set(s, i, elements[i]);
        }
    }

    void end() {
        System.out.println(wrong == 0 ? asked + " answers are as due" : wrong + " of " + asked + " answers are not as due");
        if (wrong != 0) {
            System.exit(1);
        }
    }
}
