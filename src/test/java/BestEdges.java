/** The edges that promises 27 to 34 and 40 to 42 name. */
final class BestEdges {
    private final Edges e;

    private BestEdges(Edges e) {
        this.e = e;
    }

    static void all(Edges e) {
        BestEdges t = new BestEdges(e);
        t.run();
        t.head();
        t.who();
        t.order();
        t.keeping();
        t.left();
        t.longest();
        t.hangs();
        t.next();
        t.two();
        t.gains();
    }

    private void run() {
        // FEW, 1: 3,000 by the second book; then the first is read as well, a tenth being forgotten; then another tenth; then nobody is there.
        String town = "\"book 2;book 3;one 7 reads 10 keeps 0;one 8 reads 0 keeps 10\" = 4";
        e.promise(27,
                "A RUN of n YEARS by the RULE in SHELF s: SUM (what 0), the last VALUE (1), BOOKS WHITE at its end (2), PEOPLE there at its end (3).",
                town, "rule(7, 2, 1)", "run(7, 1, 0) = 3000", "run(7, 2, 0) = 7700", "run(7, 3, 0) = 11930", "run(7, 4, 0) = 11930",
                "run(7, 60, 0) = 11930", "run(7, 1, 1) = 3000", "run(7, 2, 1) = 4700", "run(7, 3, 1) = 4230", "run(7, 4, 1) = 0",
                "run(7, 60, 1) = 0", "run(7, 1, 2) = 1", "run(7, 2, 2) = 2", "run(7, 3, 2) = 2", "run(7, 60, 2) = 2", "run(7, 1, 3) = 2",
                "run(7, 2, 3) = 1", "run(7, 3, 3) = 0", "run(7, 60, 3) = 0", "status(1) = 0", "status(3) = 0",
                // What is WHITE, or GONE, already counts as such.
                "--", "\"book 2;book 3;white 0;one 9;one 0\" = 5", "ends() = 1", "rule(0, 4, 0)", "run(0, 1, 2) = 1", "run(0, 1, 3) = 1",
                "run(0, 8, 3) = 1", "run(0, 9, 3) = 0");
        e.promise(27, "BAD;", town, "rule(0, 1, 0)", "rule(7, 1, 0)", "row(1, 0, 1)", "run(0, 0, 0) ! BAD", "run(0, 61, 0) ! BAD",
                "run(0, 1, -1) ! BAD", "run(0, 1, 4) ! BAD", "run(-1, 1, 0) ! BAD", "run(8, 1, 0) ! BAD", "run(0, 1, 0) = 5000",
                "run(7, 60, 3) = 0", "run(1, 0, 0) ! BAD", "run(1, 61, 0) ! BAD", "run(1, 1, 4) ! BAD", "run(1, 1, -1) ! BAD",
                "run(2, 0, 0) ! BAD", "run(2, 61, 0) ! BAD", "run(2, 1, 4) ! BAD", "run(0, MIN, 0) ! BAD", "run(0, MAX, 0) ! BAD",
                "run(MIN, 1, 0) ! BAD");
        e.limits(0, 3, "run(0, 1, %d)", "rule(0, 1, 0)");
        e.promise(27, "OTHER;", "row(0, 3, 4)", "run(0, 1, 0) ! OTHER", "run(0, 60, 3) ! OTHER");
        e.promise(27, "NOTHING.", "run(0, 1, 0) ! NOTHING", "run(7, 60, 3) ! NOTHING");
    }

    private void head() {
        String town = "\"book 2;book 3;one 7 reads 10 keeps 0\" = 3";
        e.promise(28, "The SHELF with the RULE of the greatest SUM in n YEARS, of several the first.", town, "row(0, 2, 3)",
                "rule(1, 2, 1)", "head(1) = 1", "rule(3, 1, 0)", "head(1) = 3", "rule(5, 1, 0)", "rule(7, 3, 0)", "head(1) = 3",
                "rule(2, 3, 0)", "head(1) = 2", "rule(0, 2, 2)", "head(1) = 0",
                // Over two years: to read one a year, 3,000 and 4,700, is less than to read both at once; with what is known already it is more.
                "--", town, "rule(6, 2, 1)", "rule(7, 1, 0)", "head(2) = 7", "head(60) = 7",
                "--", "\"book 2;one 0 reads 5 keeps 0;knows 0 0 500\" = 3", "rule(2, 1, 0)", "rule(1, 4, 0)", "head(1) = 1", "head(60) = 1",
                "--", "rule(7, 4, 0)", "head(1) = 7", "rule(6, 1, 0)", "head(1) = 6");
        e.limits(1, 60, "head(%d)", "rule(3, 1, 0)");
        e.promise(28, "BAD;", "head(0) ! BAD", "head(61) ! BAD", "head(MIN) ! BAD", "head(MAX) ! BAD", "rule(0, 1, 0)", "head(0) ! BAD",
                "head(1) = 0", "head(60) = 0", "head(61) ! BAD");
        e.promise(28, "STUCK: none holds a RULE.", "head(1) ! STUCK", "row(0, 0, 1)", "row(7, 4, 1)", "head(60) ! STUCK", "rule(7, 1, 0)",
                "head(60) = 7", "row(7, 0, 1)", "head(1) ! STUCK");
    }

    private void who() {
        String town = "\"book 5;book 4;one 9 reads 10 keeps 10;one 8 reads 6 keeps 10;white 1\" = 5";
        e.promise(29, "WHO of a BOOK over n YEARS.", town, "who(0, 1) = 0", "who(0, 2) = 1", "who(0, 60) = 1", "bookOf(0, 3) = 0",
                "known(0, 0) = 0");
        e.promise(29, "BAD;", town, "who(-1, 1) ! BAD", "who(2, 1) ! BAD", "who(0, 0) ! BAD", "who(0, 61) ! BAD", "who(1, 0) ! BAD",
                "who(1, 61) ! BAD", "who(MIN, 1) ! BAD", "who(0, MIN) ! BAD", "ends() = 1", "ends() = 1", "who(0, 0) ! BAD",
                "who(2, 1) ! BAD");
        e.promise(29, "STUCK: WHITE, nobody is there.", town, "who(1, 1) ! STUCK", "who(0, 1) = 0", "ends() = 1", "who(0, 1) = 1",
                "ends() = 1", "who(0, 1) ! STUCK", "who(1, 60) ! STUCK",
                "--", "book(5, 0)", "who(0, 1) ! STUCK", "one(9, 0, 0, 0)", "who(0, 1) = 0");
    }

    private void order() {
        String town = "\"book 1;book 2;book 3;white 1;one 2 reads 10;one 9 reads 10\" = 6";
        e.promise(30, "ORDER for one: the i-th BOOK (what i, 0 on); that VALUE (NONE).", town, "order(0, NONE) = 4000", "order(0, 0) = 0",
                "order(0, 1) = 2", "order(1, NONE) = 4000", "status(1) = 1", "alter(0, 1, 7)", "order(0, NONE) = 4014",
                "\"white 0;white 2\" = 2", "order(0, NONE) = 14",
                "--", "one(1, 1, 1, 1)", "order(0, NONE) = 0");
        e.promise(30, "BAD: also no such place;", town, "order(-1, 0) ! BAD", "order(2, 0) ! BAD", "order(0, -2) ! BAD", "order(0, 1) = 2",
                "order(0, 2) ! BAD", "order(0, MIN) ! BAD", "order(0, MAX) ! BAD", "order(MAX, 0) ! BAD", "read(0, 0)", "order(0, 0) = 2",
                "order(0, 1) ! BAD", "read(0, 2)", "order(0, 0) ! BAD", "order(0, NONE) = 4000", "ends() = 1", "order(1, 0) ! BAD",
                "order(1, -2) ! BAD",
                "--", "\"one 1\" = 1", "order(0, 0) ! BAD", "order(0, NONE) = 0");
        e.promise(30, "STUCK: GONE, more than 5 BOOKS.", town, "ends() = 1", "order(1, NONE) ! STUCK", "order(1, 0) ! STUCK",
                "order(1, 1) ! STUCK", "order(1, 2) ! BAD", "order(0, NONE) = 4000",
                "--", "\"book 1;book 1;book 1;book 1;one 1 reads 10\" = 5", "order(0, NONE) = 4000", "order(0, 3) = 3", "book(1, 0)",
                "order(0, NONE) = 5000", "order(0, 4) = 4", "book(1, 0)", "order(0, NONE) ! STUCK", "order(0, 0) ! STUCK",
                "order(0, 4) ! STUCK", "order(0, -2) ! BAD", "order(1, 0) ! BAD", "read(0, 5)", "order(0, NONE) = 6000", "book(1, 0)",
                "book(1, 0)", "order(0, NONE) ! STUCK", "read(0, 0)", "order(0, NONE) ! STUCK", "read(0, 1)", "order(0, NONE) = 8000",
                "order(0, 0) = 2", "order(0, 4) = 7");
    }

    private void keeping() {
        e.promise(31, "What KEEPING a BOOK is worth over n YEARS (2 to 60; may be below 0).", "\"book 10;one 7 reads 10 keeps 10\" = 2",
                "keeping(0, 2) = -10000", "keeping(0, 3) = -10000", "keeping(0, 60) = -10000", "keeping(0, 1) ! BAD",
                "keeping(0, 61) ! BAD",
                "--", "\"book 10;one 7 reads 0\" = 2", "keeping(0, 2) = 0",
                "--", "\"book 10;one 1 reads 9 keeps 0;knows 0 0 950\" = 3", "keeping(0, 2) = 450", "keeping(0, 3) = 860");
        e.promise(31, "-1000002;", "\"book 10;book 10;one 7;white 1\" = 4", "keeping(-1, 2) ! BAD", "keeping(2, 2) ! BAD",
                "keeping(0, 1) ! BAD", "keeping(0, 0) ! BAD", "keeping(0, 61) ! BAD", "keeping(1, 1) ! BAD", "keeping(1, 61) ! BAD",
                "keeping(MIN, MAX) ! BAD", "keeping(0, MIN) ! BAD", "keeping(0, 2) = -4750", "status(12) = 9",
                "--", "book(1, 0)", "keeping(0, 1) ! BAD", "keeping(1, 2) ! BAD");
        e.promise(31, "-1000005: WHITE, nobody is there now, or then (counted as BAD, STUCK).", "\"book 10;book 10;one 7;white 1\" = 4",
                "keeping(1, 2) ! STUCK", "keeping(1, 60) ! STUCK", "status(15) = 2", "status(12) = 0",
                "--", "book(10, 0)", "keeping(0, 2) ! STUCK", "one(9, 5, 5, 5)", "keeping(0, 2) ! STUCK", "keeping(0, 60) ! STUCK",
                "one(8, 5, 5, 5)", "keeping(0, 2) = -4750", "ends() = 1", "keeping(0, 2) ! STUCK", "ends() = 1", "keeping(0, 2) ! STUCK");
    }

    private void left() {
        e.promise(32, "LEFT.", "left(1000, 9, 0) = 1000", "left(1000, 9, 1) = 900", "left(1000, 9, 2) = 810", "left(1000, 9, 4) = 656",
                "left(1000, 9, 49) = 1", "left(1000, 9, 50) = 0", "left(1000, 9, 99) = 0", "left(999, 10, 99) = 999",
                "left(1000, 1, 3) = 1", "left(1000, 1, 4) = 0", "left(999, 1, 3) = 0");
        e.promise(32, "BAD.", "left(-1, 5, 5) ! BAD", "left(0, 0, 0) = 0", "left(1000, 10, 99) = 1000", "left(1001, 10, 99) ! BAD",
                "left(1000, 11, 99) ! BAD", "left(1000, 10, 100) ! BAD", "left(0, -1, 0) ! BAD", "left(0, 0, -1) ! BAD");
    }

    private void longest() {
        e.promise(33, "How many tellings by TELLS t leave v (1 to 1,000) of x at least;", "longest(1000, 9, 1000) = 0",
                "longest(1000, 9, 901) = 0", "longest(1000, 9, 900) = 1", "longest(1000, 9, 899) = 1", "longest(1000, 9, 811) = 1",
                "longest(1000, 9, 810) = 2", "longest(1000, 9, 2) = 48", "longest(1000, 9, 1) = 49", "longest(1000, 5, 1) = 9",
                "longest(1000, 1, 1) = 3", "longest(1000, 0, 1) = 0", "longest(5, 5, 2) = 1", "longest(5, 5, 3) = 0");
        e.limits(1, 1000, "longest(1000, 9, %d)");
        e.limits(0, 1000, "longest(%d, 9, 1)");
        e.limits(0, 10, "longest(1000, %d, 1)");
        e.promise(33, "99 at most;", "longest(1, 10, 1) = 99", "longest(1000, 10, 1000) = 99", "longest(1000, 10, 1) = 99",
                "longest(0, 10, 1) = NONE");
        e.promise(33, "NONE: x itself is less.", "longest(0, 10, 1) = NONE", "longest(1, 0, 1) = 0", "longest(5, 10, 6) = NONE",
                "longest(6, 0, 6) = 0", "longest(7, 0, 6) = 0", "longest(999, 10, 1000) = NONE", "longest(999, 0, 1000) = NONE",
                "status(12) = 0");
        e.promise(33, "BAD.", "longest(-1, 5, 5) ! BAD", "longest(1001, 5, 5) ! BAD", "longest(5, -1, 5) ! BAD", "longest(5, 11, 5) ! BAD",
                "longest(5, 5, 0) ! BAD", "longest(5, 5, 1001) ! BAD", "longest(5, 5, -1) ! BAD", "longest(0, 5, 0) ! BAD");
    }

    private void hangs() {
        e.promise(34, "HANGS.", "\"book 5;book 9;one 1;one 1;one 9;knows 0 0 900;knows 1 1 500;knows 2 1 999;knows 1 0 890\" = 9",
                "hangs() = 2", "ends() = 1", "hangs() = 1",
                "--", "one(1, 1, 1, 1)", "hangs() = 0", "one(1, 1, 1, 1)", "hangs() = 0",
                // One GONE by a DRAW, whose KNOWN stays, holds up nothing.
                "--", "\"book 5;one 9 keeps 10;one 0 keeps 10;one 0 keeps 10;knows 0 0 900;knows 2 0 7\" = 6", "hangs() = 0",
                "rule(0, 2, 0)", "seed(0)", "years(0, 1)", "known(0, 0) = 900", "hangs() = 2");
        e.promise(34, "STUCK: nobody is there.", "hangs() ! STUCK", "one(9, 1, 1, 1)", "hangs() = 0", "ends() = 1", "hangs() ! STUCK",
                "status(15) = 2");
    }

    private void next() {
        e.promise(40,
                "The BOOK not WHITE which, read by THE READER now, makes VALUE greatest, if that is more than now; of several the first;",
                "\"book 5;book 5;one 1;knows 0 0 500;knows 0 1 500\" = 5", "next() = NONE", "alter(0, 1, 499)", "next() = 1",
                "alter(0, 0, 499)", "next() = 0", "alter(0, 1, 498)", "next() = 1", "alter(0, 1, 501)", "next() = 0", "read(0, 0)",
                "next() = NONE",
                // 5 times 2 more are as good as 10 times 1 more.
                "--", "\"book 10;book 5;one 1;knows 0 0 499;knows 0 1 498\" = 5", "next() = 0", "alter(0, 1, 497)", "next() = 1",
                "alter(0, 1, 499)", "next() = 0", "alter(0, 0, 500)", "next() = 1",
                // It is more than another knows, not than THE READER knew, that makes VALUE greater.
                "--", "\"book 10;book 1;one 1 reads 9;one 1 reads 0;knows 1 0 899;knows 1 1 800\" = 6", "next() = 1", "alter(1, 1, 891)",
                "next() = 0", "alter(1, 0, 900)", "next() = 1", "alter(1, 1, 900)", "next() = NONE",
                "--", "\"book 1;book 99;white 1;one 3\" = 4", "next() = 0", "bookOf(0, 3) = 0",
                "--", "\"book 1;one 9 reads 10;one 0 reads 0\" = 3", "next() = 0", "ends() = 1", "next() = NONE");
        e.promise(40, "NONE: none.", "next() = NONE", "book(1, 0)", "next() = NONE", "one(1, 10, 1, 1)", "next() = 0", "read(0, 0)",
                "next() = NONE", "status(15) = 0",
                "--", "\"book 1;one 9\" = 2", "ends() = 1", "next() = NONE",
                "--", "\"book 1;one 5 reads 0\" = 2", "next() = NONE");
    }

    private void two() {
        String town = "\"book 5;book 9;one 0 keeps 10;one 0 keeps 10;one 9 keeps 10;knows 0 0 900;knows 1 0 500;knows 1 1 600;knows 2 1 999\" = 9";
        e.promise(41, "VALUE, if just these two (they may be one) were there (of those who are there).", town, "two(0, 1) = 9900",
                "two(1, 0) = 9900", "two(0, 2) = 13491", "two(1, 2) = 11491", "two(0, 0) = 4500", "two(1, 1) = 7900", "two(2, 2) = 8991",
                "ends() = 1", "two(0, 2) = 4500", "two(2, 2) = 0", "two(2, 1) = 7900", "value() = 9900",
                // GONE by a DRAW they still know it.
                "--", town, "rule(0, 2, 0)", "rule(1, 4, 0)", "seed(14)", "one(0, 0, 10, 0)", "years(0, 1)", "oneOf(2, 4) = 1",
                "two(2, 0) = 4500", "two(2, 2) = 0");
        e.promise(41, "BAD.", town, "two(-1, 0) ! BAD", "two(0, -1) ! BAD", "two(3, 0) ! BAD", "two(0, 3) ! BAD", "two(3, 3) ! BAD",
                "two(MIN, MAX) ! BAD", "two(32, 0) ! BAD", "two(2, 0) = 13491", "ends() = 1", "two(2, 3) ! BAD", "two(2, 2) = 0");
    }

    private void gains() {
        String town = "\"book 2;book 3;one 7 reads 10 keeps 0;one 8 reads 0 keeps 10 tells 10;knows 0 0 500\" = 5";
        e.promise(42, "SUM of a RUN of n YEARS by the RULE in SHELF s less that of n YEARS in which nothing is done.", town,
                "rule(0, 1, 0)", "rule(7, 4, 0)", "gains(0, 1) = 4000", "gains(0, 2) = 7600", "gains(0, 3) = 10840", "gains(0, 4) = 10840",
                "gains(0, 60) = 10840", "gains(7, 1) = 0", "gains(7, 60) = 0", "rule(7, 2, 0)", "gains(7, 60) = 0", "status(4) = 0",
                // 1, told 500 in the first year, lives a year longer.
                "--", "\"book 1;one 8 keeps 10 tells 10;one 7 keeps 10;knows 0 0 500\" = 4", "rule(0, 4, 0)", "gains(0, 2) = 0",
                "gains(0, 3) = 500", "gains(0, 4) = 500",
                "--", "rule(0, 1, 0)", "gains(0, 60) = 0");
        e.limits(1, 60, "gains(0, %d)", "rule(0, 1, 0)");
        e.promise(42, "-1000002;", "rule(0, 1, 0)", "row(1, 0, 1)", "gains(-1, 1) ! BAD", "gains(8, 1) ! BAD", "gains(0, 0) ! BAD",
                "gains(0, 61) ! BAD", "gains(1, 0) ! BAD", "gains(1, 61) ! BAD", "gains(2, 0) ! BAD", "gains(2, 61) ! BAD",
                "gains(0, MIN) ! BAD", "status(12) = 9");
        e.promise(42, "-1000003;", "row(0, 0, 1)", "gains(0, 1) ! OTHER", "gains(0, 60) ! OTHER", "status(13) = 2");
        e.promise(42, "-1000004 (counted as BAD and so on).", "gains(0, 1) ! NOTHING", "gains(7, 60) ! NOTHING", "status(14) = 2",
                "status(12) = 0");
    }
}
