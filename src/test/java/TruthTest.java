/** Promises 43 to 50: told readings, years in truth, the seed, what is kept, and the status. */
public final class TruthTest {
    private static final Check C = new Check();

    private static EachBookOnce small() {
        EachBookOnce x = Check.of("book 5;book 7;need 1 0;one 3 reads 10 keeps 10;one 9 reads 5;one 3");
        x.ends();
        return x;
    }

    private static void promise43Judge() {
        EachBookOnce x = small();
        Check.row(x, 0, 3, 0, 201, 101);
        String before = Check.picture(x);
        C.due("judge(0, 0)", x.judge(0, 0), -1);
        C.due("judge(0, 2)", x.judge(0, 2), -1);
        C.due("judge(0, 3): WHITE by then", x.judge(0, 3), 2);
        long[] wrong = {100, -1, 2, 99, 300, 800, 4294967296L, Long.MIN_VALUE, Long.MAX_VALUE, -100};
        for (long v : wrong) {
            x.set(0, 1, v);
            C.due("judge(0, 2) of " + v, x.judge(0, 2), 1);
        }
        x.set(0, 1, 201);
        C.same("the town behind judge()", Check.picture(x), before);
        EachBookOnce full = Check.of("book 1;book 1;book 1;book 1;book 1;book 1;book 1;book 1;one 1;one 1;one 1;one 1;one 1;one 1;one 1;one 1");
        Check.row(full, 0, 1, 707, 0, 706, 1, 605, 800, 708);
        C.due("judge of the last one and book", full.judge(0, 5), -1);
        C.due("judge of one 8", full.judge(0, 6), 5);
        full.set(0, 5, 708);
        C.due("judge of book 8", full.judge(0, 7), 5);
        Check.row(full, 0, 1, 99, 0);
        C.due("judge of book 99", full.judge(0, 2), 0);
        x.read(0, 1);
        C.due("judge(0, 2): WHITE ahead", x.judge(0, 2), 1);
        Check.row(x, 1, 4, 1);
        C.due("judge of booleans", x.judge(1, 1), 0);
        refusals(x, false);
    }

    private static void refusals(EachBookOnce x, boolean told) {
        x.rule(2, 1, 0);
        x.row(4, 0, 21);
        java.util.function.IntBinaryOperator call = told ? x::told : x::judge;
        int[][] bad = {{-1, 0}, {8, 0}, {2, -1}, {3, 21}, {4, 21}, {1, 2}};
        for (int[] two : bad) {
            C.refused(x, Check.BAD, "a told year by " + two[0] + ", " + two[1], () -> call.applyAsInt(two[0], two[1]));
        }
        C.refused(x, Check.OTHER, "a told year by a rule", () -> call.applyAsInt(2, 20));
        C.refused(x, Check.NOTHING, "a told year by nothing", () -> call.applyAsInt(3, 20));
    }

    private static void promise44Told() {
        EachBookOnce x = small();
        Check.row(x, 0, 1, 0, 1, 201);
        String before = Check.picture(x);
        C.due("told(0, 0)", x.told(0, 0), 0);
        C.due("told(0, 1)", x.told(0, 1), 5000);
        C.due("told(0, 2)", x.told(0, 2), 12000);
        C.same("the town behind told()", Check.picture(x), before);
        x.row(1, 0, 1);
        C.refused(x, Check.STUCK, "told(0, 3)", () -> x.told(0, 3));
        refusals(x, true);
        Check.row(x, 0, 1, 201, 0);
        C.due("told() one after the other: 250 of 1 without ground", x.told(0, 2), 7 * 250 + 5000);
    }

    private static void promise45Years() {
        EachBookOnce x = Check.of("book 10;one 0 reads 10 keeps 10;one 9 reads 5 keeps 10;one 9 keeps 0;knows 1 0 900");
        x.rule(0, 1, 0);
        // The draws by hand, as the document has them.
        int seed = 77;
        x.seed(seed);
        boolean[] dies = new boolean[3];
        for (int p = 0; p < 3; p++) {
            seed = seed * 1103515245 + 12345;
            dies[p] = ((seed >> 16) & 0xFFFF) % 20 < (p == 0 ? 0 : 9);
        }
        C.due("years(0, 1)", x.years(0, 1), 10000);
        C.due("SEED behind three draws", x.status(7), seed);
        C.due("READ in truth", x.bookOf(0, 3), 1);
        C.due("0 is there", x.oneOf(0, 4), 0);
        C.due("AGE of 0", x.oneOf(0, 0), 1);
        for (int p = 1; p < 3; p++) {
            C.due(p + " is GONE either way", x.oneOf(p, 4), 1);
            C.due("AGE of " + p, x.oneOf(p, 0), dies[p] ? 9 : 10);
        }
        C.due("KNOWN of 1", x.known(1, 0), dies[1] ? 900 : 0);
        C.due("status(4)", x.status(4), 1);
        C.due("status(5)", x.status(5), 10000);
        seed = seed * 1103515245 + 12345;
        boolean diesNow = (seed >>> 16) % 20 < 1;
        C.due("years(0, 1) again", x.years(0, 1), 10000);
        C.due("one draw, for those there", x.status(7), seed);
        C.due("GONE", x.oneOf(0, 4), diesNow ? 1 : 0);
        C.due("status(5) of all", x.status(5), 20000);
        x.years(0, 20);
        C.due("nobody is there", x.status(3), 3);
        int end = x.status(7);
        C.due("years() with nobody", x.years(0, 20), 0);
        C.due("no draw with nobody", x.status(7), end);
        C.due("status(4) of all", x.status(4), 42);
        x.row(1, 1, 1);
        C.refused(x, Check.BAD, "years(-1, 1)", () -> x.years(-1, 1));
        C.refused(x, Check.BAD, "years(8, 1)", () -> x.years(8, 1));
        C.refused(x, Check.BAD, "years(1, 0)", () -> x.years(1, 0));
        C.refused(x, Check.BAD, "years(2, 21)", () -> x.years(2, 21));
        C.refused(x, Check.OTHER, "years(1, 1)", () -> x.years(1, 1));
        C.refused(x, Check.NOTHING, "years(2, 1)", () -> x.years(2, 1));
    }

    private static void promise46Ends() {
        EachBookOnce x = Check.of("book 10;one 8 keeps 0;one 9;one 9;one 2 keeps 10;knows 0 0 999;knows 1 0 999;knows 3 0 999");
        C.due("ends()", x.ends(), 2);
        C.due("KNOWN of 0: 90 of 100", x.known(0, 0), 899);
        C.due("KNOWN of 1", x.known(1, 0), 0);
        C.due("KNOWN of 3: all of it", x.known(3, 0), 999);
        C.due("AGE of 1", x.oneOf(1, 0), 10);
        C.due("AGE of 3", x.oneOf(3, 0), 3);
        C.due("ends() again", x.ends(), 1);
        C.due("AGE of one GONE stays", x.oneOf(1, 0), 10);
        C.due("status(4)", x.status(4), 2);
        C.due("status(5)", x.status(5), 0);
        C.due("no draw", x.status(7), 1);
        C.due("WHITE stays as it was", x.status(1), 0);
        C.due("ends() of nobody", new EachBookOnce().ends(), 0);
    }

    private static void promise47Seed() {
        EachBookOnce x = new EachBookOnce();
        C.due("seed(5)", x.seed(5), 1);
        C.due("seed(MIN)", x.seed(Integer.MIN_VALUE), 5);
        C.due("status(7)", x.status(7), Integer.MIN_VALUE);
        C.due("seed(0)", x.seed(0), Integer.MIN_VALUE);
    }

    private static void promise48And49Image() {
        EachBookOnce x = Check.of("book 10;book 4;need 1 0;one 2 reads 10;one 9;knows 1 0 300;white 1");
        C.refused(x, Check.STUCK, "back() of nothing", x::back);
        x.seed(99);
        x.row(0, 1, 2);
        String town = picture(x);
        C.due("image()", x.image(), 1);
        x.rule(1, 1, 0);
        x.set(0, 1, 8);
        x.feed(65, 1);
        x.years(1, 2);
        x.book(5, 3);
        x.one(1, 1, 1, 1);
        x.alter(x.status(2) - 1, 2, 77);
        x.ends();
        C.due("back()", x.back(), 1);
        C.same("the town behind back()", picture(x), town);
        C.due("THE TAPE stays as it is", x.status(6), 1);
        C.due("SHELVES stay as they are", x.status(8) * 100 + x.holds(1) * 10 + x.element(0, 1), 200 + 110 + 8);
        C.due("YEARS that ended stay", x.status(4), 3);
        C.due("VALUES together stay", x.status(5) > 0 ? 1 : 0, 1);
        C.due("REFUSALS stay", x.status(15), 1);
        C.due("a BOOK anew", x.book(6, 0), 2);
        C.due("is not known", x.known(0, 2) + x.bookOf(2, 4), 0);
        C.due("one anew", x.one(1, 1, 1, 1), 2);
        C.due("knows nothing", x.known(2, 2), 0);
        C.due("back() once more", x.back(), 1);
        C.same("the town behind that", picture(x), town);
        x.read(0, 0);
        String later = picture(x);
        C.due("image() anew", x.image(), 1);
        x.ends();
        x.back();
        C.same("the town of the later image", picture(x), later);
    }

    /** Of all that is kept. */
    private static String picture(EachBookOnce x) {
        String all = Check.picture(x);
        int books = all.indexOf(" book");
        return x.status(7) + all.substring(books, all.indexOf(" shelf"));
    }

    private static void promise50Status() {
        EachBookOnce x = Check.of("book 10;book 4;book 3;white 1;white 2;one 1;one 1;one 1;one 9");
        x.ends();
        x.rule(3, 1, 0);
        x.row(4, 1, 0);
        x.feed(65, 1);
        int value = x.years(3, 1);
        int[] due = {3, 3, 4, x.status(3), 2, value, 1, x.status(7), 2};
        for (int what = 0; what <= 8; what++) {
            C.due("status(" + what + ")", x.status(what), due[what]);
        }
        for (int what : new int[] {-1, 9, 10, 11, 17, Integer.MIN_VALUE, Integer.MAX_VALUE}) {
            C.due("status(" + what + ")", x.status(what), -1);
        }
        C.due("refusals so far", x.status(12) + x.status(13) + x.status(14) + x.status(15) + x.status(16), 0);
        x.book(0, 0);
        x.keeping(9, 2);
        x.town();
        x.set(3, 0, 0);
        x.gains(4, 1);
        x.gains(4, 1);
        x.set(0, 0, 0);
        x.read(0, 0);
        for (int i = 0; i < 6; i++) {
            x.one(1, 1, 1, 1);
        }
        int[] counts = {3, 3, 1, 1, 2};
        for (int i = 0; i < 5; i++) {
            C.due("status(" + (12 + i) + ")", x.status(12 + i), counts[i]);
        }
    }

    public static void main(String[] args) {
        promise43Judge();
        promise44Told();
        promise45Years();
        promise46Ends();
        promise47Seed();
        promise48And49Image();
        promise50Status();
        C.end();
    }
}
