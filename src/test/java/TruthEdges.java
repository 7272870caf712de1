/** The edges that promises 43 to 50 name. */
final class TruthEdges {
    private final Edges e;

    private TruthEdges(Edges e) {
        this.e = e;
    }

    static void all(Edges e) {
        TruthEdges t = new TruthEdges(e);
        t.judge();
        t.judgeRefusals();
        t.told();
        t.toldRefusals();
        t.years();
        t.ends();
        t.seed();
        t.image();
        t.back();
        t.status();
        t.statusOfRefusals();
    }

    private static final String SMALL = "\"book 5;book 7;need 1 0;one 3 reads 10 keeps 10;one 9 reads 5;one 3\" = 6";

    private void judge() {
        e.promise(43, "A told YEAR by the first n elements (0 to 20) of the ROW in SHELF s: the place that is WRONG; NONE.", SMALL,
                "ends() = 1", "row(0, 3, 3)", "set(0, 1, 201)", "set(0, 2, 200)", "judge(0, 0) = NONE", "judge(0, 1) = NONE",
                "judge(0, 2) = NONE", "judge(0, 3) = 2", "set(0, 1, 101)", "judge(0, 2) = 1", "judge(0, 3) = 1", "judge(0, 1) = NONE",
                "set(0, 1, 301)", "judge(0, 2) = 1", "set(0, 1, 202)", "judge(0, 2) = 1", "set(0, 1, 4294967297)", "judge(0, 2) = 1",
                "set(0, 1, LMIN)", "judge(0, 2) = 1", "set(0, 1, LMAX)", "judge(0, 2) = 1", "set(0, 1, -1)", "judge(0, 2) = 1",
                "set(0, 1, 1)", "judge(0, 2) = NONE", "set(0, 0, -1)", "judge(0, 2) = 0", "judge(0, 0) = NONE", "bookOf(0, 3) = 0",
                // WHITE already; of one GONE by a DRAW.
                "--", SMALL, "row(0, 1, 1)", "judge(0, 1) = NONE", "read(2, 0)", "judge(0, 1) = 0", "set(0, 0, 101)", "judge(0, 1) = NONE",
                "ends() = 1", "judge(0, 1) = 0", "status(15) = 0",
                "--", "\"book 5;one 9\" = 2", "row(0, 1, 1)", "rule(1, 4, 0)", "seed(0)", "judge(0, 1) = NONE", "years(1, 1)",
                "oneOf(0, 0) = 9", "judge(0, 1) = 0",
                // The last of the people and of the books; one more of either is none.
                "--", "\"book 1;book 1;book 1;book 1;book 1;book 1;book 1;book 1\" = 8",
                "\"one 1;one 1;one 1;one 1;one 1;one 1;one 1;one 1\" = 8", "row(0, 1, 2)", "set(0, 0, 707)", "set(0, 1, 700)",
                "judge(0, 2) = NONE", "set(0, 1, 708)", "judge(0, 2) = 1", "set(0, 1, 800)", "judge(0, 2) = 1", "set(0, 1, 799)",
                "judge(0, 2) = 1", "set(0, 1, 606)", "judge(0, 2) = NONE",
                "--", "row(0, 2, 40)", "judge(0, 0) = NONE", "judge(0, 1) = 0", "judge(0, 20) = 0", "judge(0, 21) ! BAD", "book(1, 0)",
                "judge(0, 20) = 0", "one(1, 1, 1, 1)", "judge(0, 1) = NONE", "judge(0, 20) = 1",
                "--", "\"book 1;one 1\" = 2", "row(0, 4, 2)", "judge(0, 2) = 1", "set(0, 0, 1)", "judge(0, 2) = 0");
        e.limits(0, 20, "judge(0, %d)", "row(0, 2, 40)");
    }

    private void judgeRefusals() {
        e.promise(43, "BAD SHELF, n;", "row(0, 0, 40)", "row(7, 0, 40)", "rule(1, 1, 0)", "judge(-1, 0) ! BAD", "judge(8, 0) ! BAD",
                "judge(0, -1) ! BAD", "judge(0, 21) ! BAD", "judge(7, 20) = 0", "judge(1, -1) ! BAD", "judge(1, 21) ! BAD",
                "judge(2, -1) ! BAD", "judge(2, 21) ! BAD", "judge(MIN, 0) ! BAD", "judge(0, MAX) ! BAD");
        e.promise(43, "OTHER;", "rule(1, 1, 0)", "judge(1, 0) ! OTHER", "judge(1, 20) ! OTHER");
        e.promise(43, "NOTHING;", "judge(1, 0) ! NOTHING", "judge(7, 20) ! NOTHING");
        e.promise(43, "BAD: fewer elements.", "row(0, 0, 3)", "judge(0, 2) = 0", "judge(0, 3) = 0", "judge(0, 4) ! BAD",
                "judge(0, 20) ! BAD", "row(1, 0, 0)", "judge(1, 0) = NONE", "judge(1, 1) ! BAD", "row(2, 0, 20)", "judge(2, 20) = 0",
                "row(2, 0, 19)", "judge(2, 20) ! BAD", "judge(2, 19) = 0");
    }

    private void told() {
        e.promise(44, "VALUE behind it.", SMALL, "row(0, 1, 2)", "set(0, 1, 1)", "told(0, 0) = 0", "told(0, 1) = 5000",
                "told(0, 2) = 12000", "set(0, 0, 1)", "set(0, 1, 0)", "told(0, 2) = 8500", "set(0, 0, 101)", "told(0, 2) = 6750",
                "value() = 0", "status(1) = 0",
                "--", "\"book 5;one 9;one 3;knows 1 0 7\" = 4", "row(0, 1, 0)", "told(0, 0) = 35", "row(0, 1, 1)", "told(0, 1) = 2500",
                "ends() = 1", "told(0, 0) = 30");
        e.limits(0, 20, "judge(0, %d)", "row(0, 2, 40)");
    }

    private void toldRefusals() {
        e.promise(44, "BAD;", "row(0, 0, 40)", "row(7, 0, 40)", "rule(1, 1, 0)", "told(-1, 0) ! BAD", "told(8, 0) ! BAD",
                "told(0, -1) ! BAD", "told(0, 21) ! BAD", "told(7, 0) = 0", "told(1, -1) ! BAD", "told(1, 21) ! BAD", "told(2, -1) ! BAD",
                "told(2, 21) ! BAD", "told(MIN, 0) ! BAD", "told(0, MAX) ! BAD");
        e.promise(44, "OTHER;", "rule(1, 1, 0)", "told(1, 0) ! OTHER", "told(1, 20) ! OTHER");
        e.promise(44, "NOTHING;", "told(1, 0) ! NOTHING", "told(7, 20) ! NOTHING");
        e.promise(44, "BAD likewise;", "row(0, 0, 3)", "told(0, 4) ! BAD", "told(0, 20) ! BAD", "row(1, 0, 0)", "told(1, 0) = 0",
                "told(1, 1) ! BAD", "row(2, 0, 19)", "told(2, 20) ! BAD", "told(2, 19) ! STUCK");
        e.promise(44, "STUCK: it is WRONG.", SMALL, "row(0, 1, 2)", "told(0, 1) = 5000", "told(0, 2) ! STUCK", "set(0, 1, 1)",
                "told(0, 2) = 12000", "set(0, 0, 2)", "told(0, 2) ! STUCK", "told(0, 1) ! STUCK", "told(0, 0) = 0", "status(15) = 3");
    }

    private void years() {
        // The draws of SEED 1 are 18, 6, 13, 3, 19, 15, ..: one of AGE 3 whose draw is 3 lives on.
        e.promise(45, "n YEARS (1 to 20) IN TRUTH by the RULE in SHELF s: their VALUES together.", "\"book 5;one 0 reads 10 keeps 10\" = 2",
                "rule(7, 1, 0)", "years(7, 0) ! BAD", "years(7, 21) ! BAD", "status(4) = 0", "status(7) = 1", "years(7, 1) = 5000",
                "oneOf(0, 0) = 1", "status(4) = 1", "years(7, 2) = 10000", "oneOf(0, 0) = 3", "years(7, 3) = 15000", "oneOf(0, 4) = 0",
                "oneOf(0, 0) = 6", "status(5) = 30000", "status(4) = 6", "value() = 5000",
                "--", "\"book 5;one 9 reads 10\" = 2", "rule(0, 1, 0)", "years(0, 20) = 5000", "status(4) = 20", "status(5) = 5000",
                "status(3) = 1", "status(7) = 1103527590", "years(0, 19) = 0", "status(4) = 39", "status(5) = 5000",
                "status(7) = 1103527590",
                "--", "rule(0, 1, 0)", "years(0, 20) = 0", "status(4) = 20");
        e.promise(45, "BAD;", "rule(0, 1, 0)", "rule(7, 1, 0)", "row(1, 0, 1)", "years(-1, 1) ! BAD", "years(8, 1) ! BAD",
                "years(0, 0) ! BAD", "years(0, 21) ! BAD", "years(0, -1) ! BAD", "years(1, 0) ! BAD", "years(1, 21) ! BAD",
                "years(2, 0) ! BAD", "years(2, 21) ! BAD", "years(7, 20) = 0", "years(0, MIN) ! BAD", "years(0, MAX) ! BAD",
                "status(4) = 20");
        e.promise(45, "OTHER;", "row(0, 0, 1)", "years(0, 1) ! OTHER", "years(0, 20) ! OTHER", "status(4) = 0");
        e.promise(45, "NOTHING.", "years(0, 1) ! NOTHING", "years(7, 20) ! NOTHING", "status(4) = 0");
    }

    private void ends() {
        e.promise(46, "A YEAR ends (nothing is done, nobody dies by a DRAW): how many are GONE by it.", "ends() = 0",
                "\"book 5;one 9;one 8 keeps 10;one 9;one 7 keeps 10;knows 1 0 900\" = 6", "seed(0)", "rule(0, 1, 0)", "ends() = 2",
                "oneOf(0, 4) = 1", "oneOf(1, 4) = 0", "oneOf(1, 0) = 9", "oneOf(2, 4) = 1", "oneOf(3, 4) = 0", "status(7) = 0",
                "bookOf(0, 3) = 0", "known(1, 0) = 900", "known(3, 0) = 0", "ends() = 1", "ends() = 1", "ends() = 0", "status(4) = 5",
                "status(5) = 0", "status(3) = 4", "value() = 0");
    }

    private void seed() {
        e.promise(47, "SEED becomes v: the one ahead.", "seed(5) = 1", "status(7) = 5", "seed(MIN) = 5", "seed(MAX) = MIN", "seed(0) = MAX",
                "seed(-1) = 0", "status(7) = -1", "one(0, 1, 1, 1)", "rule(0, 4, 0)", "years(0, 1)", "seed(7) = -1103502900");
    }

    private void image() {
        String town = "\"book 10;book 4 good 7;need 1 0;one 2 reads 10;one 9;knows 1 0 300;white 1\" = 7";
        e.promise(48, "All is kept, but THE TAPE, SHELVES and status(): 1.", town, "seed(99)", "row(0, 1, 2)", "set(0, 1, 7)",
                "feed(65, 1)", "image() = 1", "status(15) = 0", "rule(1, 1, 0)", "set(0, 1, 8)", "feed(65, 1) = 2", "read(0, 0)",
                "alter(0, 1, 5)", "write(0, 1) = 5", "book(5, 3)", "one(1, 1, 1, 1)", "alter(2, 2, 77)", "years(1, 1)", "ends()",
                "bookOf(9, 0) ! BAD", "back() = 1", "status(0) = 2", "status(1) = 1", "status(2) = 2", "status(3) = 0", "status(7) = 99",
                "bookOf(0, 3) = 0", "bookOf(1, 3) = 1", "bookOf(1, 2) = 7", "known(0, 0) = 0", "known(0, 1) = 0", "known(1, 0) = 300",
                "oneOf(0, 0) = 2", "oneOf(1, 0) = 9", "oneOf(1, 4) = 0", "bookOf(2, 0) ! BAD", "oneOf(2, 0) ! BAD",
                // THE TAPE, SHELVES and what only status() tells go on.
                "status(6) = 2", "status(8) = 2", "holds(1) = 11", "element(0, 1) = 8", "status(4) = 2", "status(5) = 12530",
                "status(12) = 3",
                // What was there in between is not known of what comes anew.
                "book(6, 0) = 2", "known(0, 2) = 0", "one(1, 1, 1, 1) = 2", "known(2, 2) = 0", "bookOf(2, 1) = 0", "bookOf(2, 3) = 0");
        e.promise(48, "All is kept, but THE TAPE, SHELVES and status(): 1.", "image() = 1", "book(5, 0)", "one(9, 1, 1, 1)", "ends() = 1",
                "seed(4)", "back() = 1", "status(0) = 0", "status(2) = 0", "status(3) = 0", "status(7) = 1", "one(1, 1, 1, 1) = 0",
                "oneOf(0, 4) = 0", "oneOf(0, 0) = 1");
    }

    private void back() {
        e.promise(49, "All is again as it was kept: 1.", "image() = 1", "book(5, 0)", "back() = 1", "status(0) = 0", "book(6, 0) = 0",
                "back() = 1", "status(0) = 0", "book(7, 0) = 0", "image() = 1", "book(8, 0) = 1", "back() = 1", "status(0) = 1",
                "bookOf(0, 0) = 7", "back() = 1", "bookOf(0, 0) = 7",
                // Runs and towns that are refused do not touch what is kept.
                "--", "\"book 5;one 3 reads 10\" = 2", "rule(0, 1, 0)", "image() = 1", "run(0, 60, 0)", "who(0, 3)", "keeping(0, 3)",
                "order(0, 0)", "gains(0, 3)", "head(3)", "says(0, 1)", "\"white 0;x\" ! 8", "back() = 1", "bookOf(0, 3) = 0",
                "known(0, 0) = 0", "oneOf(0, 0) = 3");
        e.promise(49, "STUCK: nothing was.", "back() ! STUCK", "book(5, 0)", "back() ! STUCK", "status(0) = 1", "status(15) = 2",
                "image() = 1", "back() = 1", "status(15) = 2");
    }

    private void status() {
        String town = "\"book 10;book 4;book 3;white 1;white 2;one 1;one 1;one 1;one 9\" = 9";
        e.promise(50,
                "BOOKS (0), WHITE ones (1), PEOPLE (2), GONE ones (3), YEARS that ended (4), VALUES of YEARS IN TRUTH together (5), THE TAPE's size (6), SEED (7), SHELVES that hold something (8);",
                town, "status(0) = 3", "status(1) = 2", "status(2) = 4", "status(3) = 0", "status(4) = 0", "status(5) = 0", "status(6) = 0",
                "status(7) = 1", "status(8) = 0", "alter(0, 0, 100)", "ends() = 1", "status(3) = 1", "status(4) = 1", "status(5) = 0",
                "rule(3, 4, 0)", "row(4, 1, 0)", "feed(65, 1)", "years(3, 1) = 950", "status(4) = 2", "status(5) = 950", "status(6) = 1",
                "status(7) = 662824084", "status(8) = 2", "years(3, 1) = 900", "status(5) = 1850", "row(3, 0, 0)", "status(8) = 2",
                "row(0, 0, 0)", "rule(7, 1, 1)", "status(8) = 4", "status(2) = 4");
        e.promise(50,
                "BOOKS (0), WHITE ones (1), PEOPLE (2), GONE ones (3), YEARS that ended (4), VALUES of YEARS IN TRUTH together (5), THE TAPE's size (6), SEED (7), SHELVES that hold something (8);",
                "row(0, 0, 0)", "row(1, 0, 0)", "row(2, 0, 0)", "row(3, 0, 0)", "rule(4, 1, 0)", "rule(5, 1, 0)", "rule(6, 1, 0)",
                "status(8) = 7", "rule(7, 1, 0)", "status(8) = 8");
    }

    private void statusOfRefusals() {
        e.promise(50, "12 to 16: REFUSALS -2 to -6.", "row(0, 0, 1)", "rule(1, 1, 0)", "book(0, 0) ! BAD", "status(12) = 1",
                "status(13) = 0", "keeping(9, 2) ! BAD", "status(12) = 2", "town() ! 0", "status(12) = 3", "set(1, 0, 0) ! OTHER",
                "status(13) = 1", "gains(0, 1) ! OTHER", "status(13) = 2", "set(2, 0, 0) ! NOTHING", "status(14) = 1",
                "gains(2, 1) ! NOTHING", "status(14) = 2", "back() ! STUCK", "status(15) = 1",
                "\"book 1;book 1;book 1;book 1;book 1;book 1;book 1;book 1\" = 8", "status(16) = 0", "keeping(0, 2) ! STUCK",
                "status(15) = 2", "book(1, 0) ! FULL", "status(16) = 1", "status(12) = 3");
        e.promise(50, "NONE another what.", "status(-1) = NONE", "status(8) = 0", "status(9) = NONE", "status(10) = NONE",
                "status(11) = NONE", "status(12) = 0", "status(16) = 0", "status(17) = NONE", "status(MIN) = NONE", "status(MAX) = NONE",
                "status(-2) = NONE", "status(12) = 0");
        // An object is promised 512 calls: the last of them still counts the refusals of all others.
        EachBookOnce x = new EachBookOnce();
        for (int i = 0; i < 511; i++) {
            x.row(8, 0, 0);
        }
        int counted = x.status(12);
        e.must(counted == 511, "status(12) as the 512th call is " + counted);
    }
}
