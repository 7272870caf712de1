/** The edges that Terms name: rules, what is best, years in truth, shelves, refusals. */
final class RulesEdges {
    private final Edges e;

    private RulesEdges(Edges e) {
        this.e = e;
    }

    static void all(Edges e) {
        RulesEdges t = new RulesEdges(e);
        t.rules();
        t.readingRules();
        t.chains();
        t.sage();
        t.reader();
        t.nobody();
        t.runs();
        t.who();
        t.order();
        t.keeping();
        t.leftAndHangs();
        t.toldYear();
        t.inTruth();
        t.draws();
        t.shelves();
        t.rows();
        t.refusals();
    }

    private void rules() {
        e.terms("RULES have a KIND and a (0 to 99);", "rule(0, 1, 0) = 1", "says(0, 0) = 0", "rule(0, 1, 1) = 1", "says(0, 0) = 1",
                "rule(0, 6, 98) = 1", "says(0, 0) = 98", "rule(0, 6, 99) = 1", "says(0, 0) = 99", "rule(0, 6, 100) ! BAD",
                "rule(0, 6, -1) ! BAD", "says(0, 0) = 99", "holds(0) = 16");
        for (int kind = 1; kind <= 6; kind++) {
            e.limits(0, 99, "rule(0, " + kind + ", %d)");
        }
        e.terms("each says what is done in a YEAR: 0 RULE;", "rule(0, 0, 5) ! BAD", "holds(0) = NONE", "rule(0, 4, 5) = 1",
                "says(0, 0) = 5");
    }

    private void readingRules() {
        // Two books of WORTH 9 and one more or less: the second, which needs the first, is read behind it or ahead of it.
        e.terms("1 NOW, under RULE: again and again of BOOKS not WHITE that of the greatest WORTH, of several the first, is read by THE READER, till all are WHITE;",
                "\"book 9;book 9;need 1 0;one 0 reads 10 keeps 10\" = 4", "rule(0, 1, 0)", "says(0, 1) = 2", "years(0, 1) = 18000",
                "known(0, 1) = 1000", "status(1) = 2", "says(0, 1) = 0",
                "--", "\"book 8;book 9;need 1 0;one 0 reads 10 keeps 10\" = 4", "rule(0, 1, 0)", "years(0, 1) = 12500", "known(0, 1) = 500",
                "known(0, 0) = 1000",
                "--", "\"book 10;book 9;need 1 0;one 0 reads 10 keeps 10\" = 4", "rule(0, 1, 0)", "years(0, 1) = 19000",
                "known(0, 1) = 1000",
                "--", "\"book 1;book 99;white 1;one 0 reads 10 keeps 10;one 0 reads 9 keeps 10\" = 5", "rule(0, 1, 0)", "says(0, 1) = 1",
                "years(0, 1) = 1000", "known(0, 0) = 1000", "known(1, 0) = 0", "known(0, 1) = 0",
                "--", "\"book 1;book 1;book 1;book 1;book 1;book 1;book 1;one 0 reads 10\" = 8", "rule(0, 1, 99)", "says(0, 1) = 7",
                "book(1, 0) = 7", "says(0, 1) = 8", "run(0, 1, 2) = 8", "years(0, 1) = 8000", "status(1) = 8",
                // Each is read by THE READER of it, as things stand then.
                "--", "\"book 9;book 8;need 1 0;one 0 reads 10 keeps 10;one 0 reads 10 keeps 10;knows 1 0 999\" = 6", "alter(1, 0, 1000)",
                "rule(0, 1, 0)", "years(0, 1) = 17000", "known(0, 0) = 1000", "known(0, 1) = 1000", "known(1, 1) = 0");
        String three = "\"book 7;book 9;book 8;one 0 reads 10 keeps 10\" = 4";
        e.terms("2 FEW, under NOW: as NOW, but a BOOKS at most;",
                three, "rule(0, 2, 0)", "says(0, 2) = 0", "says(0, 1) = 0", "years(0, 1) = 0", "status(1) = 0",
                "--", three, "rule(0, 2, 1)", "says(0, 2) = 1", "says(0, 1) = 1", "years(0, 1) = 9000", "bookOf(1, 3) = 1", "status(1) = 1",
                "--", three, "rule(0, 2, 2)", "says(0, 2) = 2", "years(0, 1) = 17000", "bookOf(2, 3) = 1", "bookOf(0, 3) = 0",
                "--", three, "rule(0, 2, 3)", "says(0, 2) = 3", "years(0, 1) = 24000", "status(1) = 3",
                "--", three, "rule(0, 2, 4)", "says(0, 2) = 3", "years(0, 1) = 24000",
                "--", three, "rule(0, 2, 99)", "says(0, 2) = 3", "years(0, 1) = 24000", "says(0, 2) = 0",
                // The others do not hear it, and of several of the greatest WORTH the first is read.
                "--", "\"book 7;book 9;book 9;one 0 reads 10 keeps 10;one 0 reads 0 keeps 10\" = 5", "rule(0, 2, 1)", "years(0, 1) = 9000",
                "bookOf(1, 3) = 1", "bookOf(2, 3) = 0", "known(1, 1) = 0",
                "--", "\"book 1;book 1;book 1;book 1;book 1;book 1;book 1;book 1;one 0\" = 9", "rule(0, 2, 7)", "says(0, 2) = 7",
                "rule(0, 2, 8)", "says(0, 2) = 8", "rule(0, 2, 9)", "says(0, 2) = 8");
        e.terms("3 LOUD, under NOW: as NOW, but ALOUD to all others;",
                "\"book 4;book 4;one 0 reads 0 keeps 10;one 0 reads 10 keeps 10;one 0 reads 0 keeps 10\" = 5", "rule(0, 3, 0)",
                "says(0, 3) = 2", "says(0, 1) = 2", "years(0, 1) = 8000", "known(1, 0) = 1000", "known(0, 0) = 500", "known(2, 0) = 500",
                "known(0, 1) = 500", "known(2, 1) = 500", "known(1, 1) = 1000",
                // Those GONE hear nothing; of those who are there, AGE 1 now, nobody dies by the first draws of SEED 1.
                "--", "\"book 4;one 9;one 0 reads 10 keeps 10;one 0 reads 0 keeps 10\" = 4", "ends() = 1", "rule(0, 3, 0)",
                "years(0, 1) = 4000", "known(0, 0) = 0", "known(2, 0) = 500",
                "--", "\"book 4;one 0 reads 10 keeps 10\" = 2", "rule(0, 3, 0)", "says(0, 3) = 1", "years(0, 1) = 4000");
    }

    private void chains() {
        // The first tells the third, the youngest; so does the second; the third tells the second, the youngest other one.
        e.terms("4 CHAIN, under RULE: each who is there, by numbers, tells each BOOK, by numbers, to the youngest other one (there; of several the first);",
                "\"book 1;book 1;one 2 keeps 10 tells 10;one 1 keeps 10 tells 10;one 0 keeps 10 tells 10;knows 0 0 500;knows 0 1 600\" = 7",
                "rule(0, 4, 0)", "says(0, 4) = 1100", "years(0, 1) = 1100", "known(2, 0) = 500", "known(1, 0) = 500", "known(2, 1) = 600",
                "known(1, 1) = 600",
                // By numbers: the first tells what it knows before the second tells it.
                "--", "\"book 1;one 0 keeps 10 tells 10;one 2 keeps 10 tells 10;one 1 keeps 10 tells 10;knows 1 0 500\" = 5",
                "rule(0, 4, 0)", "years(0, 1) = 500", "known(0, 0) = 500", "known(2, 0) = 0",
                // Of two of the same AGE the first; one year younger is younger.
                "--", "\"book 1;one 2 keeps 10 tells 10;one 1 keeps 10 tells 0;one 1 keeps 10 tells 0;knows 0 0 500\" = 5", "rule(0, 4, 0)",
                "years(0, 1) = 500", "known(1, 0) = 500", "known(2, 0) = 0",
                "--", "\"book 1;one 2 keeps 10 tells 10;one 1 keeps 10 tells 0;one 0 keeps 10 tells 0;knows 0 0 500\" = 5", "rule(0, 4, 0)",
                "years(0, 1) = 500", "known(1, 0) = 0", "known(2, 0) = 500",
                // Only other ones: one alone tells nothing, and the youngest tells the youngest but itself.
                "--", "\"book 1;one 0 keeps 10 tells 10;knows 0 0 500\" = 3", "rule(0, 4, 0)", "years(0, 1) = 500", "known(0, 0) = 500",
                "says(0, 4) = 500",
                "--", "\"book 1;one 0 keeps 10 tells 5;one 3 keeps 10;knows 0 0 501\" = 4", "rule(0, 4, 0)", "years(0, 1) = 501",
                "known(1, 0) = 250", "known(0, 0) = 501",
                // Nobody GONE is told: the 9 year old is, behind a year.
                "--", "\"book 1;one 4 keeps 10 tells 10;one 9 keeps 10;one 5 keeps 10 tells 0;knows 0 0 500\" = 5", "ends() = 1",
                "rule(0, 4, 0)", "says(0, 4) = 500", "years(0, 1) = 500", "known(1, 0) = 0", "known(2, 0) = 500",
                // Nobody GONE tells: by a DRAW (seed 0 draws 0) they know it still.
                "--", "\"book 1;one 9 keeps 10 tells 10;one 0 keeps 10;knows 0 0 500\" = 4", "rule(0, 4, 0)", "rule(1, 2, 0)", "seed(0)",
                "years(1, 1) = 500", "known(0, 0) = 500", "oneOf(0, 4) = 1", "seed(1)", "years(0, 1) = 0", "known(1, 0) = 0");
        e.terms("5 TWICE, under CHAIN: as CHAIN, and once more;",
                "\"book 1;one 0 keeps 10 tells 10;one 2 keeps 10 tells 10;one 1 keeps 10 tells 10;knows 1 0 500\" = 5", "rule(0, 5, 0)",
                "says(0, 5) = 500", "says(0, 4) = 500", "years(0, 1) = 500", "known(0, 0) = 500", "known(2, 0) = 500",
                // Not thrice: 3 is told by nobody, and what 0 tells comes to 2, by it to 1; four in a ring would need more.
                "--", "\"book 1;one 0 keeps 10 tells 5;one 2 keeps 10 tells 10;one 1 keeps 10 tells 10;knows 1 0 500\" = 5",
                "rule(0, 5, 0)", "years(0, 1) = 500", "known(0, 0) = 500", "known(2, 0) = 250");
    }

    private void sage() {
        e.terms("6 SAGE, under CHAIN: first as CHAIN, then one BOOK, as FEW with 1 would, is read.",
                "\"book 4;book 6;book 6;one 0 reads 10 keeps 10 tells 10;one 0 reads 0 keeps 10 tells 0\" = 5", "rule(0, 6, 0)",
                "says(0, 6) = 6000", "says(0, 4) = 6000", "years(0, 1) = 6000", "bookOf(1, 3) = 1", "status(1) = 1", "known(0, 1) = 1000",
                "known(1, 1) = 0", "seed(1)", "years(0, 1) = 12000", "known(1, 1) = 1000", "known(1, 2) = 0", "bookOf(2, 3) = 1", "seed(1)",
                "rule(0, 6, 99)", "years(0, 1) = 16000", "known(1, 2) = 1000", "status(1) = 3", "says(0, 6) = 16000",
                // What is told first may be the ground of what is read then.
                "--", "\"book 1;book 2;need 1 0;white 0;one 0 reads 10 keeps 10;one 0 reads 0 keeps 10 tells 10\" = 6", "alter(1, 0, 1000)",
                "rule(0, 6, 0)", "says(0, 6) = 3000");
    }

    private void reader() {
        e.terms("THE READER of a BOOK: of those who are there the one who would know most of it then, of several the youngest, then the first.",
                "\"book 5;one 5 reads 8;one 4 reads 8;one 4 reads 8;one 3 reads 7\" = 5", "reader(0) = 1",
                "--", "\"book 5;one 4 reads 8;one 4 reads 8\" = 3", "reader(0) = 0",
                "--", "\"book 5;one 4 reads 8;one 3 reads 8\" = 3", "reader(0) = 1",
                "--", "\"book 5;one 3 reads 8;one 4 reads 8\" = 3", "reader(0) = 0",
                // What they know already is what they would know, if it is more.
                "--", "\"book 5;one 9 reads 0;one 4 reads 8;knows 0 0 801\" = 4", "reader(0) = 0",
                "--", "\"book 5;one 9 reads 0;one 4 reads 8;knows 0 0 800\" = 4", "reader(0) = 1",
                "--", "\"book 5;one 9 reads 0;one 4 reads 8;knows 0 0 799\" = 4", "reader(0) = 1",
                "--", "\"book 5;one 9 reads 10;one 4 reads 0\" = 3", "reader(0) = 0", "ends() = 1", "reader(0) = 1",
                // GOOD and GROUND count: 750 by a ground of 500 are less than 800 by one of 1,000.
                "--", "\"book 5;book 5;need 1 0;one 1 reads 10;one 9 reads 8;knows 0 0 500;knows 1 0 999\" = 7", "reader(1) = 1",
                "reader(0) = 0");
    }

    private void nobody() {
        e.terms("(Nobody there: nothing is done.)",
                "\"book 5;one 9 reads 10\" = 2", "ends() = 1", "rule(0, 1, 0)", "rule(1, 2, 9)", "rule(2, 3, 0)", "rule(3, 4, 0)",
                "rule(4, 5, 0)", "rule(5, 6, 0)", "says(0, 1) = 0", "says(1, 2) = 0", "says(2, 3) = 0", "says(3, 4) = 0", "says(4, 5) = 0",
                "says(5, 6) = 0", "run(0, 60, 0) = 0", "run(0, 60, 2) = 0", "run(5, 60, 2) = 0", "years(0, 1) = 0", "years(1, 1) = 0",
                "years(2, 1) = 0", "years(3, 1) = 0", "years(4, 1) = 0", "years(5, 20) = 0", "status(1) = 0", "bookOf(0, 3) = 0",
                "status(7) = 1", "status(4) = 26",
                "--", "book(5, 0) = 0", "rule(0, 1, 0)", "rule(1, 6, 0)", "says(0, 1) = 0", "says(1, 4) = 0", "years(0, 2) = 0",
                "years(1, 2) = 0", "status(1) = 0");
    }

    private void runs() {
        e.terms("A RUN of n YEARS (1 to 60) by a RULE, from how all is now, nothing being changed: each YEAR what the RULE says, then the VALUE counts, then it ends.",
                "\"book 5;one 9 reads 10;one 8 reads 10 keeps 0\" = 3", "rule(0, 1, 0)", "run(0, 0, 0) ! BAD", "run(0, 1, 0) = 5000",
                "run(0, 2, 0) = 9500", "run(0, 3, 0) = 9500", "run(0, 59, 0) = 9500", "run(0, 60, 0) = 9500", "run(0, 61, 0) ! BAD",
                "known(1, 0) = 0", "status(4) = 0", "status(7) = 1", "bookOf(0, 3) = 0",
                // No draws: they live until they are 10.
                "--", "\"book 5;one 0 reads 10 keeps 10\" = 2", "rule(0, 1, 0)", "seed(0)", "run(0, 10, 0) = 50000", "run(0, 10, 1) = 5000",
                "run(0, 10, 3) = 0", "run(0, 9, 3) = 1", "run(0, 11, 0) = 50000", "run(0, 11, 1) = 0", "run(0, 60, 0) = 50000",
                "status(7) = 0",
                // From how all is now: what is WHITE stays so, what is known counts.
                "--", "\"book 5;white 0;one 8 keeps 10;knows 0 0 7\" = 4", "rule(0, 1, 0)", "run(0, 2, 0) = 70", "run(0, 2, 2) = 1");
        e.limits(1, 60, "run(0, %d, 0)", "\"book 5;one 3\" = 2", "rule(0, 1, 0)");
        e.terms("SUM: all VALUES.", "\"book 5;book 3;one 8 reads 10 keeps 0\" = 3", "rule(0, 2, 1)", "run(0, 1, 0) = 5000",
                "run(0, 1, 1) = 5000", "run(0, 2, 0) = 12500", "run(0, 2, 1) = 7500");
    }

    private void who() {
        e.terms("WHO of a BOOK over n YEARS: of those who are there the one whose READING now (nothing else being done in all n) makes the SUM greatest, of several the first.",
                "\"book 5;one 9 reads 10 keeps 10;one 8 reads 5 keeps 10\" = 3", "who(0, 1) = 0", "who(0, 2) = 0", "who(0, 60) = 0",
                "--", "\"book 5;one 8 reads 5 keeps 10;one 9 reads 10 keeps 10\" = 3", "who(0, 1) = 1", "who(0, 2) = 0", "who(0, 60) = 0",
                "--", "\"book 5;one 9 reads 9 keeps 10;one 8 reads 5 keeps 10\" = 3", "who(0, 1) = 0", "who(0, 2) = 1", "who(0, 60) = 1",
                "--", "\"book 5;one 3 reads 5;one 3 reads 5\" = 3", "who(0, 5) = 0",
                "--", "\"book 5;one 9 reads 10;one 3 reads 0\" = 3", "ends() = 1", "who(0, 1) = 1",
                // Nothing else: the other book stays unread, and nothing is told. 0 knows much of 1 already.
                "--", "\"book 5;book 9;need 1 0;one 3 reads 9 keeps 10;one 3 reads 10 keeps 0 tells 10\" = 5", "who(0, 1) = 1",
                "who(0, 2) = 1", "who(0, 4) = 0", "bookOf(0, 3) = 0");
        e.limits(1, 60, "who(0, %d)", "\"book 5;one 3\" = 2");
    }

    private void order() {
        e.terms("ORDER: of all rows in which one reads all BOOKS not WHITE now (5 at most), that by which their VALUE alone, of what they know then of all BOOKS (WORTH times KNOWN), is greatest, of several the first row.",
                "\"book 1;book 9;book 1;book 7;need 1 0;need 3 1;one 2 reads 10;one 2;knows 1 2 999\" = 9", "order(0, NONE) = 18000",
                "order(0, 0) = 0", "order(0, 1) = 1", "order(0, 2) = 2", "order(0, 3) = 3", "order(0, 4) ! BAD", "book(2, 8) = 4",
                "order(0, NONE) = 20000", "order(0, 4) = 4", "order(0, 5) ! BAD", "book(1, 0) = 5", "order(0, NONE) ! STUCK",
                "order(0, 0) ! STUCK", "\"white 2\" = 1", "order(0, NONE) = 20000", "order(0, 2) = 3", "order(0, 4) = 5",
                "order(0, 5) ! BAD", "order(1, NONE) = 8445",
                // Of two books without needs both rows are as good.
                "--", "\"book 3;book 9;one 2 reads 10;one 2\" = 4", "order(0, 0) = 0", "order(0, 1) = 1", "order(0, NONE) = 12000",
                "order(1, NONE) = 6000",
                // Alone: what others know is not theirs; what they know already is.
                "--", "\"book 3;one 2 reads 0;one 2 reads 10;knows 0 0 700;knows 1 0 900;white 0\" = 6", "order(0, NONE) = 2100",
                "order(0, 0) ! BAD", "order(1, NONE) = 2700");
    }

    private void keeping() {
        e.terms("KEEPING a BOOK is worth: SUM of n YEARS, if WHO reads it at the beginning of the second YEAR, less that, if WHO of it reads it now.",
                "\"book 10;one 8 reads 10 keeps 10\" = 2", "keeping(0, 2) = -10000", "keeping(0, 3) = -10000", "keeping(0, 60) = -10000",
                "bookOf(0, 3) = 0",
                // They forget a tenth a year: read now 10,000 and 9,000; kept, 10,000 in the second.
                "--", "\"book 10;one 8 reads 10 keeps 0\" = 2", "keeping(0, 2) = -9000",
                // In the first year what is known already counts: 9,500 and 9,000 instead of 9,500 and 8,550.
                "--", "\"book 10;one 1 reads 9 keeps 0;knows 0 0 950\" = 3", "keeping(0, 2) = 450",
                // WHO then is another: 0 is GONE by then.
                "--", "\"book 10;one 9 reads 10 keeps 10;one 5 reads 4 keeps 10\" = 3", "keeping(0, 2) = -6000",
                // WHO then is of the years left: in two it is 0 (as in three), in one it is 1.
                "--", "\"book 10;one 5 reads 6 keeps 10;one 8 reads 10 keeps 10\" = 3", "keeping(0, 2) = -10000", "keeping(0, 3) = -8000",
                "keeping(0, 4) = -6000");
        e.limits(2, 60, "keeping(0, %d)", "\"book 5;one 3\" = 2");
    }

    private void leftAndHangs() {
        e.terms("LEFT of x (0 to 1,000) after n tellings (0 to 99) by TELLS t: n times: times t by 10, cut.",
                "left(0, 10, 99) = 0", "left(1, 10, 99) = 1", "left(1000, 10, 99) = 1000", "left(1000, 9, 0) = 1000",
                "left(1000, 9, 1) = 900", "left(1000, 0, 0) = 1000", "left(1000, 0, 1) = 0", "left(9, 9, 1) = 8", "left(9, 9, 5) = 4",
                "left(9, 9, 99) = 0", "left(1001, 5, 1) ! BAD", "left(-1, 5, 1) ! BAD", "left(5, 11, 1) ! BAD", "left(5, -1, 1) ! BAD",
                "left(5, 5, 100) ! BAD", "left(5, 5, -1) ! BAD");
        e.limits(0, 1000, "left(%d, 5, 5)");
        e.limits(0, 10, "left(500, %d, 5)");
        e.limits(0, 99, "left(500, 5, %d)");
        e.terms("HANGS: of those who are there the one without whom VALUE is least, of several the first.",
                "\"book 5;one 3;one 3;knows 0 0 500;knows 1 0 500\" = 5", "hangs() = 0", "alter(1, 0, 501)", "hangs() = 1",
                "alter(0, 0, 502)", "hangs() = 0",
                "--", "\"book 5;book 9;one 3;one 3;knows 0 0 900;knows 1 1 500\" = 6", "hangs() = 0", "alter(1, 1, 501)", "hangs() = 1",
                "--", "\"book 5;one 9;one 3;one 3\" = 4", "hangs() = 0", "ends() = 1", "hangs() = 1",
                "--", "\"book 5;one 3;one 3;one 3;knows 2 0 1\" = 5", "hangs() = 2");
    }

    private void toldYear() {
        e.terms("A told YEAR: a ROW of numbers 100 times one and the BOOK they read, one after the other: WRONG at the first that can't be.",
                "\"book 5;book 7;need 1 0;one 3 reads 10;one 3 reads 5\" = 5", "row(0, 2, 4)", "judge(0, 1) = NONE", "judge(0, 2) = 1",
                "set(0, 1, 101)", "judge(0, 2) = NONE", "told(0, 2) = 6750", "set(0, 1, 1)", "told(0, 2) = 12000", "judge(0, 3) = 2",
                "set(0, 2, 1)", "judge(0, 3) = 2", "set(0, 1, 2)", "judge(0, 3) = 1", "set(0, 1, 99)", "judge(0, 2) = 1", "set(0, 1, 100)",
                "judge(0, 2) = 1", "set(0, 0, 100)", "set(0, 1, 1)", "judge(0, 2) = NONE", "set(0, 1, 201)", "judge(0, 2) = 1",
                "set(0, 1, -1)", "judge(0, 2) = 1", "set(0, 0, -100)", "judge(0, 2) = 0", "set(0, 0, 10000)", "judge(0, 1) = 0",
                "set(0, 0, MIN)", "judge(0, 1) = 0", "set(0, 0, MAX)", "judge(0, 1) = 0");
    }

    private void inTruth() {
        // Seeds by which the first draw below 20 is: 0: 0, 23: 1, 19: 4, 18: 5, 15: 6, 14: 8, 11: 9.
        e.terms("IN TRUTH a YEAR: what a RULE says, its VALUE; then of each who is there a DRAW below 20: they are GONE (AGE and KNOWN stay), if it is below AGE; then it ends for the others.",
                "\"book 2;one 5 keeps 0;one 0 keeps 0;knows 0 0 900;knows 1 0 500\" = 5", "rule(0, 2, 0)", "seed(19)", "years(0, 1) = 1800",
                "oneOf(0, 4) = 1", "oneOf(0, 0) = 5", "known(0, 0) = 900", "oneOf(1, 0) = 1", "known(1, 0) = 450", "value() = 900",
                "status(4) = 1",
                "--", "\"book 2;one 5 keeps 0;knows 0 0 900\" = 3", "rule(0, 2, 0)", "seed(18)", "years(0, 1) = 1800", "oneOf(0, 4) = 0",
                "oneOf(0, 0) = 6", "known(0, 0) = 810",
                "--", "\"book 2;one 5 keeps 0;knows 0 0 900\" = 3", "rule(0, 2, 0)", "seed(15)", "years(0, 1) = 1800", "oneOf(0, 4) = 0",
                "oneOf(0, 0) = 6",
                "--", "\"book 2;one 0;one 1\" = 3", "rule(0, 2, 0)", "seed(0)", "years(0, 1) = 0", "oneOf(0, 4) = 0", "oneOf(0, 0) = 1",
                "--", "one(1, 5, 5, 5) = 0", "rule(0, 2, 0)", "seed(0)", "years(0, 1) = 0", "oneOf(0, 4) = 1", "oneOf(0, 0) = 1",
                "--", "one(1, 5, 5, 5) = 0", "rule(0, 2, 0)", "seed(23)", "years(0, 1) = 0", "oneOf(0, 4) = 0", "oneOf(0, 0) = 2",
                "--", "\"book 2;one 9 keeps 10;knows 0 0 900\" = 3", "rule(0, 2, 0)", "seed(14)", "years(0, 1) = 1800", "oneOf(0, 4) = 1",
                "oneOf(0, 0) = 9", "known(0, 0) = 900",
                "--", "\"book 2;one 9 keeps 10;knows 0 0 900\" = 3", "rule(0, 2, 0)", "seed(11)", "years(0, 1) = 1800", "oneOf(0, 4) = 1",
                "oneOf(0, 0) = 10", "known(0, 0) = 0",
                // What the RULE says is done in truth, ahead of the VALUE and of the draws.
                "--", "\"book 2;one 9 reads 10\" = 2", "rule(0, 1, 0)", "seed(14)", "years(0, 1) = 2000", "known(0, 0) = 1000",
                "bookOf(0, 3) = 1");
        e.limits(1, 20, "years(0, %d)", "\"book 5;one 3\" = 2", "rule(0, 1, 0)");
    }

    private void draws() {
        e.terms("A DRAW below n: SEED (1 at first) becomes SEED times 1103515245, and 12345 (an int, wrapping); its upper 16 bits, no sign, modulo n.",
                "status(7) = 1", "one(0, 5, 5, 5) = 0", "rule(0, 4, 0)", "years(0, 1)", "status(7) = 1103527590", "one(0, 5, 5, 5) = 1",
                "years(0, 1)", "status(7) = 662824084", "seed(1)", "one(0, 5, 5, 5) = 2", "one(0, 5, 5, 5) = 3", "years(0, 1)",
                "status(7) = -999580867",
                // Seed 3: the upper bits are 50,515, and 15 of 20; by a sign they were -15,021, and -1. Seed 2: 33,676, and 16; by a sign 0.
                "--", "one(1, 5, 5, 5) = 0", "rule(0, 4, 0)", "seed(3)", "years(0, 1)", "status(7) = -984409216", "oneOf(0, 4) = 0",
                "oneOf(0, 0) = 2",
                "--", "one(8, 5, 5, 5) = 0", "rule(0, 4, 0)", "seed(2)", "years(0, 1)", "status(7) = -2087924461", "oneOf(0, 4) = 0",
                "oneOf(0, 0) = 9",
                // Each who is there draws once, by numbers: the second draw of SEED 1 is 6, the first 18, the third 13.
                "--", "one(7, 5, 5, 5) = 0", "one(7, 5, 5, 5) = 1", "one(7, 5, 5, 5) = 2", "rule(0, 4, 0)", "years(0, 1)",
                "oneOf(0, 4) = 0", "oneOf(1, 4) = 1", "oneOf(2, 4) = 0", "status(7) = 662824084", "years(0, 1)",
                // Those GONE draw no more: of the draws 3 and 19 the fourth is that of the first one, 8 years old now.
                "oneOf(0, 4) = 1", "oneOf(0, 0) = 8", "oneOf(2, 4) = 0", "oneOf(2, 0) = 9", "status(7) = -112468174",
                "--", "one(6, 5, 5, 5) = 0", "one(6, 5, 5, 5) = 1", "rule(0, 4, 0)", "years(0, 1)", "oneOf(1, 4) = 0", "oneOf(1, 0) = 7",
                "--", "seed(MIN) = 1", "one(0, 5, 5, 5) = 0", "rule(0, 4, 0)", "years(0, 1)", "status(7) = -2147471303", "seed(MAX)",
                "years(0, 1)", "status(7) = 1043980748");
    }

    private void shelves() {
        e.terms("SHELVES 0 to 7 hold NOTHING (at first), a ROW, or a RULE.",
                "holds(0) = NONE", "holds(7) = NONE", "status(8) = 0", "row(0, 0, 1) = 1", "row(7, 0, 1) = 1", "rule(6, 1, 0) = 1",
                "status(8) = 3", "row(8, 0, 1) ! BAD", "row(-1, 0, 1) ! BAD", "rule(8, 1, 0) ! BAD", "rule(-1, 1, 0) ! BAD", "holds(0) = 0",
                "holds(7) = 0", "holds(6) = 11", "holds(1) = NONE", "rule(0, 2, 0) = 1", "holds(0) = 12", "row(6, 3, 1) = 1",
                "holds(6) = 3", "status(8) = 3");
        e.limits(0, 7, "row(%d, 0, 1)");
        e.limits(0, 7, "rule(%d, 1, 0)");
    }

    private void rows() {
        e.terms("A ROW has a SORT (0 bytes, 1 shorts, 2 ints, 3 longs, 4 booleans)", "row(0, 0, 1) = 1", "row(1, 1, 1) = 1",
                "row(2, 2, 1) = 1", "row(3, 3, 1) = 1", "row(4, 4, 1) = 1", "row(5, 5, 1) ! BAD", "row(5, -1, 1) ! BAD", "holds(0) = 0",
                "holds(1) = 1", "holds(2) = 2", "holds(3) = 3", "holds(4) = 4", "holds(5) = NONE");
        e.limits(0, 4, "row(0, %d, 1)");
        e.terms("and 0 to 40 elements (0, or not so, at first);", "row(0, 3, 0) = 1", "set(0, 0, 7) ! BAD", "row(0, 3, 1) = 1",
                "set(0, 0, 7) = 1", "set(0, 1, 7) ! BAD", "row(0, 3, 40) = 1", "element(0, 0) = 0", "element(0, 39) = 0",
                "set(0, 39, 7) = 1", "element(0, 39) = 7", "set(0, 40, 7) ! BAD", "element(0, 40) = 0", "row(0, 3, 39) = 1",
                "set(0, 38, 7) = 1", "set(0, 39, 7) ! BAD", "row(0, 3, 40) = 1", "element(0, 38) = 0", "element(0, 39) = 0",
                "row(0, 4, 40) = 1", "element(0, 39) = 0",
                // A row as long as can be is not in another shelf's way.
                "row(1, 3, 40) = 1", "set(0, 39, 1) = 1", "element(1, 0) = 0", "set(1, 0, 9) = 1", "element(0, 39) = 1",
                "row(7, 3, 40) = 1", "set(7, 39, LMIN) = 1", "element(7, 39) = LMIN");
        for (int sort = 0; sort <= 4; sort++) {
            e.limits(0, 40, "row(7, " + sort + ", %d)");
        }
        e.terms("what is put in keeps its lowest bits (of booleans: whether it is not 0); told they are numbers (1, 0).",
                "row(0, 0, 8)", "set(0, 0, 127)", "set(0, 1, 128)", "set(0, 2, 255)", "set(0, 3, 256)", "set(0, 4, -128)",
                "set(0, 5, -129)", "set(0, 6, 257)", "set(0, 7, LMAX)", "element(0, 0) = 127", "element(0, 1) = -128", "element(0, 2) = -1",
                "element(0, 3) = 0", "element(0, 4) = -128", "element(0, 5) = 127", "element(0, 6) = 1", "element(0, 7) = -1",
                "--", "row(0, 1, 8)", "set(0, 0, 32767)", "set(0, 1, 32768)", "set(0, 2, 65535)", "set(0, 3, 65536)", "set(0, 4, -32768)",
                "set(0, 5, -32769)", "set(0, 6, 65537)", "set(0, 7, LMIN)", "element(0, 0) = 32767", "element(0, 1) = -32768",
                "element(0, 2) = -1", "element(0, 3) = 0", "element(0, 4) = -32768", "element(0, 5) = 32767", "element(0, 6) = 1",
                "element(0, 7) = 0",
                "--", "row(0, 2, 8)", "set(0, 0, 2147483647)", "set(0, 1, 2147483648)", "set(0, 2, 4294967295)", "set(0, 3, 4294967296)",
                "set(0, 4, -2147483648)", "set(0, 5, -2147483649)", "set(0, 6, 4294967297)", "set(0, 7, LMAX)",
                "element(0, 0) = 2147483647", "element(0, 1) = -2147483648", "element(0, 2) = -1", "element(0, 3) = 0",
                "element(0, 4) = -2147483648", "element(0, 5) = 2147483647", "element(0, 6) = 1", "element(0, 7) = -1",
                "--", "row(0, 3, 4)", "set(0, 0, LMAX)", "set(0, 1, LMIN)", "set(0, 2, 4294967296)", "set(0, 3, -1)",
                "element(0, 0) = LMAX", "element(0, 1) = LMIN", "element(0, 2) = 4294967296", "element(0, 3) = -1",
                "--", "row(0, 4, 8)", "set(0, 0, 0)", "set(0, 1, 1)", "set(0, 2, -1)", "set(0, 3, 2)", "set(0, 4, 256)", "set(0, 5, 65536)",
                "set(0, 6, 4294967296)", "set(0, 7, LMIN)", "element(0, 0) = 0", "element(0, 1) = 1", "element(0, 2) = 1",
                "element(0, 3) = 1", "element(0, 4) = 1", "element(0, 5) = 1", "element(0, 6) = 1", "element(0, 7) = 1", "set(0, 7, 0)",
                "element(0, 7) = 0");
    }

    private void refusals() {
        e.terms("REFUSALS (the call answers the number; nothing changes but how many there were; the first that fits as each line has them):",
                "status(12) = 0", "status(13) = 0", "status(14) = 0", "status(15) = 0", "status(16) = 0", "row(8, 0, 0) ! BAD",
                "status(12) = 1", "row(8, 9, 99) ! BAD", "status(12) = 2", "rule(0, 1, 0)", "row(1, 0, 1)", "set(0, 9, 0) ! OTHER",
                "status(13) = 1", "set(2, 9, 0) ! NOTHING", "status(14) = 1", "set(1, 9, 0) ! BAD", "hangs() ! STUCK", "status(15) = 1",
                "book(0, 1) ! BAD", "status(12) = 4", "status(16) = 0");
        e.terms("-2 BAD a number that may not be, nothing of that number.", "book(0, 0) ! BAD", "bookOf(0, 0) ! BAD", "known(0, 0) ! BAD",
                "status(12) = 3", "status(13) = 0");
        e.terms("-3 OTHER: a SHELF that holds another thing than is wanted.", "row(0, 0, 4)", "rule(1, 1, 0)", "run(0, 1, 0) ! OTHER",
                "ones(1, 0) ! OTHER", "says(1, 4) ! OTHER", "status(13) = 3", "status(12) = 0");
        e.terms("-4 NOTHING: a SHELF that holds NOTHING.", "run(0, 1, 0) ! NOTHING", "ones(0, 0) ! NOTHING", "says(7, 4) ! NOTHING",
                "status(14) = 3", "status(13) = 0");
        e.terms("-5 STUCK: it can't be as things stand.", "back() ! STUCK", "hangs() ! STUCK", "head(1) ! STUCK", "status(15) = 3",
                "status(14) = 0");
        e.terms("-6 FULL.", Edges.times(8, "book(1, 0)", "book(1, 0) ! FULL", "status(16) = 1", "status(15) = 0"));
    }
}
