/** What is promised holds for the last of the books, people, shelves and elements as for the first: a town as full as can be. */
final class FullEdges {
    private static final String BOOKS = "\"book 1;book 2;book 3;book 4;book 5;book 6;book 7;book 8\" = 8";
    private static final String PEOPLE = "\"one 0 keeps 10 tells 10;one 0 keeps 10 tells 10;one 0 keeps 10 tells 10;one 0 keeps 10 tells 10;"
            + "one 0 keeps 10 tells 10;one 0 keeps 10 tells 10;one 0 keeps 10 tells 10;one 0 keeps 10 tells 10\" = 8";
    private static final String FORGETFUL = "\"one 0 keeps 0;one 0 keeps 0;one 0 keeps 0;one 0 keeps 0;one 0 keeps 0;one 0 keeps 0;one 0 keeps 0;one 0 keeps 0\" = 8";
    private final Edges e;

    private FullEdges(Edges e) {
        this.e = e;
    }

    static void all(Edges e) {
        FullEdges t = new FullEdges(e);
        t.yearEnds();
        t.chain();
        t.aloud();
        t.needsOfTheLast();
        t.best();
        t.shelves();
    }

    private void yearEnds() {
        e.terms("PEOPLE have numbers, 0 on, 8 at most:", BOOKS, FORGETFUL, "alter(0, 0, 1000)", "alter(0, 7, 1000)", "alter(1, 0, 1000)",
                "alter(1, 7, 1000)", "alter(6, 7, 1000)", "alter(7, 0, 1000)", "alter(7, 7, 1000)", "ends() = 0", "known(0, 0) = 900",
                "known(0, 7) = 900", "known(1, 0) = 900", "known(1, 7) = 900", "known(6, 7) = 900", "known(7, 0) = 900",
                "known(7, 7) = 900", "value() = 8100", "oneOf(7, 0) = 1");
        e.terms("at AGE 10 they are GONE (AGE 10, KNOWN all 0).", BOOKS, "\"one 9;one 9;one 9;one 9;one 9;one 9;one 9;one 8 keeps 10\" = 8",
                "alter(6, 7, 900)", "alter(7, 0, 800)", "alter(7, 7, 700)", "ends() = 7", "known(6, 7) = 0", "known(7, 0) = 800",
                "known(7, 7) = 700", "status(3) = 7", "ends() = 1", "known(7, 7) = 0", "status(3) = 8", "value() = 0");
    }

    private void chain() {
        // All of the same AGE: the first tells the second, all others tell the first.
        e.terms("tells each BOOK, by numbers, to the youngest other one (there; of several the first);", BOOKS, PEOPLE, "rule(0, 4, 0)",
                "alter(7, 7, 700)", "alter(7, 0, 600)", "alter(1, 0, 50)", "years(0, 1) = 6200", "known(0, 0) = 600", "known(0, 7) = 700",
                "known(1, 0) = 50", "known(1, 7) = 0", "known(2, 0) = 0", "known(7, 0) = 600", "known(7, 7) = 700", "known(6, 7) = 0",
                "--", BOOKS, PEOPLE, "rule(0, 5, 0)", "alter(7, 7, 700)", "alter(7, 0, 600)", "alter(1, 0, 50)", "years(0, 1) = 6200",
                "known(1, 0) = 600", "known(1, 7) = 700", "known(2, 0) = 0", "known(2, 7) = 0",
                // One GONE by a DRAW, the second of SEED 1, tells nobody, the first neither.
                "--", "\"book 1;one 0 keeps 10;one 9 keeps 10 tells 10;one 0 keeps 10;knows 1 0 500\" = 5", "rule(0, 4, 0)",
                "rule(1, 2, 0)", "years(1, 1) = 500", "oneOf(1, 4) = 1", "oneOf(1, 0) = 9", "known(1, 0) = 500", "seed(1)",
                "years(0, 1) = 0", "known(0, 0) = 0", "known(2, 0) = 0");
    }

    private void aloud() {
        e.terms("ALOUD to a set of others (there):", "book(1, 0)", "book(1, 1)", "book(1, 3)", "book(1, 7)", "book(1, 15)", "book(1, 31)",
                "book(1, 63)", "book(1, 127)", PEOPLE, "aloud(0, 7, 255) = 7", "known(0, 7) = 250", "known(1, 7) = 62", "known(7, 7) = 62",
                "known(7, 6) = 0");
        e.terms("3 LOUD, under NOW: as NOW, but ALOUD to all others;", BOOKS, PEOPLE, "rule(0, 3, 0)", "says(0, 3) = 8", "says(0, 1) = 8",
                "years(0, 1) = 18000", "known(0, 0) = 500", "known(0, 7) = 500", "known(7, 0) = 250", "known(7, 7) = 250", "status(1) = 8",
                "says(0, 3) = 0");
        e.terms("till all are WHITE;", BOOKS, PEOPLE, "rule(0, 1, 0)", "says(0, 1) = 8", "years(0, 1) = 18000", "status(1) = 8",
                "known(7, 7) = 0");
    }

    private void needsOfTheLast() {
        // The last one is the only one with a ground for the last book, which needs all others.
        e.terms("NEEDS (a set of BOOKS of lesser numbers, as bits)",
                "book(1, 0)", "book(1, 0)", "book(1, 0)", "book(1, 0)", "book(1, 0)", "book(1, 0)", "book(1, 0)", "book(9, 127) = 7",
                PEOPLE, "\"white 0;white 1;white 2;white 3;white 4;white 5;white 6\" = 7", "bookOf(7, 1) = 127", "alter(7, 0, 900)",
                "alter(7, 1, 901)", "alter(7, 2, 902)", "alter(7, 3, 903)", "alter(7, 4, 904)", "alter(7, 5, 905)", "alter(7, 6, 800)",
                "ground(7, 7) = 800", "ground(6, 7) = 0", "would(7, 7) = 450", "would(0, 7) = 250", "reader(7) = 7", "who(7, 1) = 7",
                "order(7, NONE) = 10265", "order(7, 0) = 7", "order(0, NONE) = 2250", "rule(7, 1, 0)", "run(7, 1, 0) = 10265",
                "keeping(7, 2) = -4050", "needs(7, false) = 127", "needs(6, true) = 128", "image() = 1", "read(7, 7) = 450", "back() = 1",
                "bookOf(7, 1) = 127", "ground(7, 7) = 800", "next() = 7");
        e.terms("GROUND of one for a BOOK: the least KNOWN of its NEEDS (1,000 without any).",
                "\"book 1;book 1;book 1;need 2 0;need 2 1;one 3;one 3;knows 1 0 500;knows 1 1 400\" = 9", "ground(1, 2) = 400",
                "alter(1, 0, 399)", "ground(1, 2) = 399", "alter(0, 0, 1000)", "alter(0, 1, 1000)", "ground(1, 2) = 399",
                "ground(0, 2) = 1000", "alter(1, 0, 1000)", "ground(1, 2) = 400");
    }

    private void best() {
        e.terms("BOOKS have numbers, 0 on, 8 at most:", BOOKS, PEOPLE, "next() = 7", "alter(7, 7, 500)", "next() = 6", "hangs() = 7",
                "lost(1) = 127", "lost(500) = 127", "lost(501) = 255", "bear(500) = 128", "youngest(7) = 0", "youngest(0) = 1",
                "teach(7, 7) = 0", "two(6, 7) = 4000", "two(7, 7) = 4000", "bookOf(7, 4) = 500", "reader(7) = 0", "who(7, 3) = 0",
                "tell(7, 6, 7) = 500", "status(0) = 8", "status(2) = 8",
                "--", "\"book 1;one 1 reads 10;knows 0 0 999\" = 3", "next() = 0", "alter(0, 0, 1000)", "next() = NONE");
        e.terms("TOKENS, each as long as can be: WORDS (a .. z)", "\"book 5;book 5;one 3\" = 3", "\"hook 5\" ! 0", "\"feed 1 0\" ! 0",
                "\"ane 3\" ! 0", "\"snows 0 0 5\" ! 0", "\"xhite 0\" ! 0", "\"book 5 food 5\" ! 7", "\"one 3 leads 5\" ! 6",
                "\"one 3 peeps 5\" ! 6", "\"one 3 bells 5\" ! 6", "\"boom 5\" ! 0", "\"nees 1 0\" ! 0", "\"onf 3\" ! 0",
                "\"knowt 0 0 5\" ! 0", "\"whitf 0\" ! 0", "\"book 5 gooe 5\" ! 7", "\"one 3 readt 5\" ! 6", "\"one 3 keept 5\" ! 6",
                "\"one 3 tellt 5\" ! 6");
    }

    private void shelves() {
        // A new row is all 0, in each shelf and up to its last element, and leaves the other shelves as they are.
        for (int s = 0; s < 8; s++) {
            int other = (s + 7) % 8;
            e.terms("0 to 40 elements (0, or not so, at first);", "row(" + s + ", 3, 40)", "row(" + other + ", 3, 40)",
                "set(" + s + ", 0, 5)", "set(" + s + ", 20, 6)", "set(" + s + ", 39, 7)", "set(" + other + ", 0, 8)",
                "set(" + other + ", 33, 9)", "set(" + other + ", 39, 10)", "row(" + s + ", 3, 40)", "element(" + s + ", 0) = 0",
                "element(" + s + ", 20) = 0", "element(" + s + ", 39) = 0", "element(" + other + ", 0) = 8",
                "element(" + other + ", 33) = 9", "element(" + other + ", 39) = 10");
        }
    }
}
