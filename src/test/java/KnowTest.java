/** Promises 35 to 39: what is lost, who bears it, whom to teach, what needs what. */
public final class KnowTest {
    private static final Check C = new Check();

    private static void promise35Lost() {
        EachBookOnce x = Check.of("book 5;book 9;book 1;one 1 keeps 10;one 9;knows 0 0 500;knows 1 1 999");
        C.due("lost(1)", x.lost(1), 4);
        C.due("lost(500)", x.lost(500), 4);
        C.due("lost(501)", x.lost(501), 5);
        C.due("lost(1000)", x.lost(1000), 7);
        x.ends();
        C.due("lost(1) behind a year", x.lost(1), 6);
        C.refused(x, Check.BAD, "lost(0)", () -> x.lost(0));
        C.refused(x, Check.BAD, "lost(1001)", () -> x.lost(1001));
        C.due("lost(1) with nobody", Check.of("book 5;book 9").lost(1), 3);
    }

    private static void promise36Bear() {
        EachBookOnce x = Check.of("book 1;book 1;book 1;book 1;one 1 keeps 10;one 1 keeps 10;one 1 keeps 10;one 1 keeps 10;"
                + "knows 0 0 500;knows 0 1 300;knows 1 2 500;knows 2 1 500;knows 2 2 500;knows 3 0 500");
        C.due("bear(501): nothing is known so well", x.bear(501), 0);
        C.due("bear(500): 0 and 2, not 2 and 3", x.bear(500), 5);
        C.due("bear(300): 0 and 1, not 0 and 2", x.bear(300), 3);
        x.alter(3, 1, 300);
        x.alter(3, 2, 300);
        C.due("bear(300): 3 alone", x.bear(300), 8);
        C.refused(x, Check.BAD, "bear(0)", () -> x.bear(0));
        C.refused(x, Check.BAD, "bear(1001)", () -> x.bear(1001));
        C.due("bear(1) of nobody", Check.of("book 5").bear(1), 0);
        EachBookOnce y = Check.of("book 1;book 1;book 1;one 1;one 1;one 1;knows 0 0 5;knows 1 1 5;knows 2 2 5");
        C.due("bear(5) needs them all", y.bear(5), 7);
        // One who is GONE bears nothing, though KNOWN stays.
        EachBookOnce z = Check.of("book 1;book 1;one 9 keeps 10;one 0 keeps 10;one 0 keeps 10;knows 0 0 500;knows 0 1 500;knows 1 0 500;knows 2 1 500");
        C.due("bear(500): 0", z.bear(500), 1);
        z.rule(0, 4, 0);
        z.seed(Check.seedBy(9));
        // The chain: 0 tells 1, 1 tells 2, so that both would know both; they are altered back.
        z.years(0, 1);
        C.due("0 is GONE and KNOWS", z.oneOf(0, 4) * 1000 + z.known(0, 0), 1500);
        z.alter(1, 1, 0);
        z.alter(2, 0, 0);
        z.alter(1, 0, 500);
        z.alter(2, 1, 500);
        C.due("bear(500) of those there", z.bear(500), 6);
    }

    private static void promise37Youngest() {
        EachBookOnce x = Check.of("one 4;one 3;one 9;one 3;one 5");
        C.due("youngest(0)", x.youngest(0), 1);
        C.due("youngest(1)", x.youngest(1), 3);
        C.due("youngest(3)", x.youngest(3), 1);
        x.ends();
        C.due("youngest(2) of one GONE", x.youngest(2), 1);
        C.refused(x, Check.BAD, "youngest(-1)", () -> x.youngest(-1));
        C.refused(x, Check.BAD, "youngest(5)", () -> x.youngest(5));
        EachBookOnce y = Check.of("one 4;one 9");
        C.due("youngest(0)", y.youngest(0), 1);
        y.ends();
        C.due("youngest(0): the other is GONE", y.youngest(0), -1);
        C.due("youngest() refused nothing", y.status(12), 0);
    }

    private static void promise38Teach() {
        EachBookOnce x = Check.of("book 1;book 2;one 1 keeps 10 tells 8;one 9 keeps 10;one 2 keeps 10;one 2 keeps 10;knows 0 0 500;knows 2 0 100;knows 3 0 100;knows 1 1 900");
        C.due("teach(0, 0): 400 more", x.teach(0, 0), 1);
        x.ends();
        C.due("teach(0, 0): of several the first", x.teach(0, 0), 2);
        x.alter(2, 0, 400);
        C.due("teach(0, 0)", x.teach(0, 0), 3);
        x.alter(3, 0, 400);
        C.due("teach(0, 0): nobody would know more", x.teach(0, 0), -1);
        C.due("teach(0, 1): nothing to tell", x.teach(0, 1), -1);
        x.alter(3, 1, 600);
        C.due("teach(3, 1): 0 is the first", x.teach(3, 1), 0);
        x.alter(0, 1, 299);
        x.alter(2, 1, 300);
        C.due("teach(3, 1): 1 more is enough", x.teach(3, 1), 0);
        C.refused(x, Check.BAD, "teach(-1, 0)", () -> x.teach(-1, 0));
        C.refused(x, Check.BAD, "teach(4, 0)", () -> x.teach(4, 0));
        C.refused(x, Check.BAD, "teach(1, -1)", () -> x.teach(1, -1));
        C.refused(x, Check.BAD, "teach(1, 2)", () -> x.teach(1, 2));
        C.refused(x, Check.STUCK, "teach(1, 0): GONE", () -> x.teach(1, 0));
    }

    private static void promise39Needs() {
        EachBookOnce x = Check.of("book 1;book 1;book 1;book 1;book 1;need 1 0;need 3 1;need 4 2;need 4 3");
        int[] down = {0, 1, 0, 3, 15};
        int[] up = {26, 24, 16, 16, 0};
        for (int b = 0; b < 5; b++) {
            C.due("needs(" + b + ", false)", x.needs(b, false), down[b]);
            C.due("needs(" + b + ", true)", x.needs(b, true), up[b]);
        }
        C.refused(x, Check.BAD, "needs(-1, false)", () -> x.needs(-1, false));
        C.refused(x, Check.BAD, "needs(5, true)", () -> x.needs(5, true));
    }

    public static void main(String[] args) {
        promise35Lost();
        promise36Bear();
        promise37Youngest();
        promise38Teach();
        promise39Needs();
        C.end();
    }
}
