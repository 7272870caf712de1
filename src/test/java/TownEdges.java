/** The edges that promises 9 to 18 name. */
final class TownEdges {
    private final Edges e;

    private TownEdges(Edges e) {
        this.e = e;
    }

    static void all(Edges e) {
        TownEdges t = new TownEdges(e);
        t.book();
        t.one();
        t.ones();
        t.onesRefusals();
        t.feed();
        t.wipe();
        t.town();
        t.bookOf();
        t.oneOf();
        t.known();
        t.alter();
    }

    private void book() {
        e.promise(9, "A BOOK: its number.", "book(1, 0) = 0", "book(1, 0) = 1", "book(1, 3) = 2", "status(0) = 3", "one(1, 1, 1, 1)",
                "book(1, 0) = 3", "known(0, 3) = 0", "read(0, 0)", "book(1, 0) = 4", "bookOf(4, 3) = 0", "bookOf(4, 2) = 1000");
        e.promise(9, "BAD: needs that are no set of BOOKS there are, too;", "book(1, 1) ! BAD", "book(1, 0) = 0", "book(1, 2) ! BAD",
                "book(1, 3) ! BAD", "book(1, 1) = 1", "book(1, 3) = 2", "book(1, 7) = 3", "book(1, 16) ! BAD", "book(1, 17) ! BAD",
                "book(1, 8) = 4", "book(1, -1) ! BAD", "book(1, MIN) ! BAD", "book(1, MAX) ! BAD", "book(1, 32) ! BAD", "book(0, 0) ! BAD",
                "book(100, 0) ! BAD", "status(0) = 5");
        e.promise(9, "FULL.", "\"book 1;book 1;book 1;book 1;book 1;book 1;book 1\" = 7", "book(1, 128) ! BAD", "book(1, 127) = 7",
                "book(1, 0) ! FULL", "book(1, 255) ! FULL", "book(99, 128) ! FULL", "book(1, 256) ! BAD", "book(0, 0) ! BAD",
                "book(100, 0) ! BAD", "status(0) = 8");
    }

    private void one() {
        e.promise(10, "One more of the PEOPLE: the number.", "one(1, 2, 3, 4) = 0", "one(5, 6, 7, 8) = 1", "oneOf(1, 0) = 5",
                "oneOf(1, 1) = 6", "oneOf(1, 2) = 7", "oneOf(1, 3) = 8", "oneOf(0, 0) = 1", "status(2) = 2", "book(1, 0)", "alter(1, 0, 9)",
                "one(0, 0, 0, 0) = 2", "known(2, 0) = 0", "oneOf(2, 4) = 0");
        e.promise(10, "BAD;", "one(-1, 0, 0, 0) ! BAD", "one(0, 0, 0, 0) = 0", "one(9, 10, 10, 10) = 1", "one(10, 10, 10, 10) ! BAD",
                "one(9, 11, 10, 10) ! BAD", "one(9, 10, 11, 10) ! BAD", "one(9, 10, 10, 11) ! BAD", "one(0, -1, 0, 0) ! BAD",
                "one(0, 0, -1, 0) ! BAD", "one(0, 0, 0, -1) ! BAD", "status(2) = 2");
        e.promise(10, "FULL.", "\"one 1;one 1;one 1;one 1;one 1;one 1;one 1\" = 7", "one(0, 0, 0, 0) = 7", "one(0, 0, 0, 0) ! FULL",
                "one(9, 10, 10, 10) ! FULL", "one(10, 0, 0, 0) ! BAD", "one(0, 11, 0, 0) ! BAD", "one(0, 0, 11, 0) ! BAD",
                "one(0, 0, 0, 11) ! BAD", "status(2) = 8");
    }

    private static String[] row(int sort, long... elements) {
        String[] lines = new String[elements.length + 1];
        lines[0] = "row(0, " + sort + ", " + elements.length + ")";
        for (int i = 0; i < elements.length; i++) {
            lines[i + 1] = "set(0, " + i + ", " + elements[i] + ")";
        }
        return lines;
    }

    private static String[] joined(String[] ahead, String... behind) {
        String[] all = java.util.Arrays.copyOf(ahead, ahead.length + behind.length);
        System.arraycopy(behind, 0, all, ahead.length, behind.length);
        return all;
    }

    private void ones() {
        String words = "PEOPLE by the first n elements of the ROW in SHELF s, four each, as one() has them, until one that can't be one, or that there is no room for: how many came.";
        e.promise(11, words, joined(row(3, 1, 2, 3, 4, 9, 10, 10, 10, 0, 0, 0, 0), "ones(0, 0) = 0", "status(2) = 0", "ones(0, 4) = 1",
                "ones(0, 12) = 3", "status(2) = 4", "oneOf(0, 0) = 1", "oneOf(0, 1) = 2", "oneOf(0, 2) = 3", "oneOf(0, 3) = 4",
                "oneOf(2, 0) = 9", "oneOf(2, 1) = 10", "oneOf(2, 2) = 10", "oneOf(2, 3) = 10", "oneOf(3, 0) = 0", "oneOf(3, 3) = 0",
                "ones(0, 8) = 2", "ones(0, 12) = 2", "status(2) = 8", "ones(0, 4) = 0", "ones(0, 0) = 0", "status(16) = 0"));
        // The second can't be one: by each of its four numbers, on both sides.
        long[][] cannot = {{10, 0, 0, 0}, {-1, 0, 0, 0}, {0, 11, 0, 0}, {0, -1, 0, 0}, {0, 0, 11, 0}, {0, 0, -1, 0}, {0, 0, 0, 11}, {0, 0,
                0, -1}, {4294967296L, 0, 0, 0}, {0, 4294967297L, 0, 0}, {0, 0, -4294967296L, 0}, {0, 0, 0, Long.MIN_VALUE},
            {Long.MAX_VALUE, 0, 0, 0}};
        for (long[] four : cannot) {
            e.promise(11, words, joined(row(3, 1, 1, 1, 1, four[0], four[1], four[2], four[3], 2, 2, 2, 2), "ones(0, 12) = 1",
                "status(2) = 1", "status(12) = 0", "set(0, 0, 10)", "ones(0, 4) = 0", "status(2) = 1"));
        }
        e.promise(11, words, joined(row(0, 1, 1, 1, 1, 266, 1, 1, 1), "ones(0, 8) = 1", "status(2) = 1"));
        e.promise(11, words, joined(row(4, 5, 6, 7, 8), "ones(0, 4) = 1", "oneOf(0, 0) = 1", "oneOf(0, 3) = 1", "row(1, 2, 40)",
                "ones(1, 40) = 7", "status(2) = 8", "ones(1, 40) = 0", "status(16) = 0", "status(12) = 0"));
    }

    private void onesRefusals() {
        e.promise(11, "BAD SHELF;", "row(0, 0, 4)", "row(7, 0, 4)", "ones(-1, 0) ! BAD", "ones(8, 0) ! BAD", "ones(0, 4) = 1",
                "ones(7, 4) = 1", "ones(8, 3) ! BAD", "ones(MIN, 0) ! BAD");
        e.promise(11, "OTHER;", "rule(0, 1, 0)", "ones(0, 0) ! OTHER", "ones(0, -1) ! OTHER", "ones(0, 44) ! OTHER");
        e.promise(11, "NOTHING;", "ones(0, 0) ! NOTHING", "ones(0, -1) ! NOTHING", "ones(7, 44) ! NOTHING");
        e.promise(11, "BAD n (0 on, a multiple of four, no more than elements).", "row(0, 0, 8)", "ones(0, -4) ! BAD", "ones(0, -1) ! BAD",
                "ones(0, 0) = 0", "ones(0, 1) ! BAD", "ones(0, 2) ! BAD", "ones(0, 3) ! BAD", "ones(0, 4) = 1", "ones(0, 5) ! BAD",
                "ones(0, 7) ! BAD", "ones(0, 8) = 2", "ones(0, 9) ! BAD", "ones(0, 12) ! BAD", "ones(0, MIN) ! BAD", "ones(0, MAX) ! BAD",
                "status(2) = 3", "row(1, 0, 7)", "ones(1, 4) = 1", "ones(1, 8) ! BAD", "row(2, 0, 0)", "ones(2, 0) = 0", "ones(2, 4) ! BAD",
                "row(3, 0, 40)", "ones(3, 44) ! BAD", "ones(3, 40) = 4");
    }

    private void feed() {
        e.promise(12, "THE TAPE gets the n lowest bytes (1 .. 4) of v behind it, the highest of these first: its size.",
                "feed(0x6F6E6520, 4) = 4", "feed(0x7F7F7F37, 1) = 5", "town() = 1", "oneOf(0, 0) = 7", "feed(0x6F, 1) = 1",
                "feed(0x116E65, 2) = 3", "feed(0x7F203120, 3) = 6", "feed(0x726561, 3) = 9", "feed(0x64732038, 4) = 13", "status(6) = 13",
                "town() = 1", "oneOf(1, 0) = 1", "oneOf(1, 1) = 8",
                // A negative int has a highest byte of 128 or more.
                "feed(-1, 4) = 4", "town() ! 0", "feed(0x20202080, 4) = 4", "town() ! 3", "feed(0x20802020, 4) = 4", "town() ! 1",
                "feed(0x80202020, 4) = 4", "town() ! 0", "feed(0x80202020, 3) = 3", "town() ! 3", "feed(0x20208020, 1) = 1", "town() ! 1");
        e.limits(1, 4, "feed(32, %d)");
        e.promise(12, "BAD;", "feed(32, 0) ! BAD", "feed(32, 5) ! BAD", "feed(32, -1) ! BAD", "feed(32, MIN) ! BAD", "feed(32, MAX) ! BAD",
                "status(6) = 0", "feed(32, 1) = 1", "feed(32, 4) = 5");
        e.promise(12, "FULL.", Edges.times(61, "feed(0x20202020, 4)", "feed(0x202020, 3) = 247", "feed(0x20202020, 4) ! FULL",
                "feed(0x202020, 3) = 250", "feed(0x20, 1) ! FULL", "feed(0x20, 4) ! FULL", "feed(0x20, 0) ! BAD", "feed(0x20, 5) ! BAD",
                "status(6) = 250", "wipe() = 250", "feed(0x20, 1) = 1"));
        e.promise(12, "FULL.", Edges.times(61, "feed(0x20202020, 4)", "feed(0x2020, 2) = 246", "feed(0x20202020, 4) = 250",
                "feed(0x20, 1) ! FULL", "wipe() = 250"));
    }

    private void wipe() {
        e.promise(13, "THE TAPE is empty: its size ahead.", "wipe() = 0", "feed(0x6F, 1)", "wipe() = 1", "status(6) = 0", "wipe() = 0",
                "feed(0x6F6E6520, 4)", "feed(0x33, 1)", "town() = 1", "wipe() = 0");
        e.promise(13, "THE TAPE is empty: its size ahead.", Edges.times(62, "feed(0x20202020, 4)", "feed(0x2020, 2) = 250", "wipe() = 250",
                "status(6) = 0", "\"one 3\" = 1", "status(2) = 1"));
    }

    private void town() {
        e.promise(14, "THE TAPE is a TOWN: how many STATEMENTS;", "\"book 5\" = 1", "\"book 5;one 3\" = 2",
                "\"white 0;white 1;knows 0 0 5\" = 3", "status(12) = 0");
        e.promise(14, "-20 less the FAULT (that is refused, too: BAD).", "\"\" ! 0", "status(12) = 1", "\"x\" ! 0", "status(12) = 2",
                "\" x\" ! 1", "\"book 0\" ! 5", "status(12) = 4", "town() ! 0", "status(12) = 5", "status(13) = 0",
                "--", "\"" + " ".repeat(249) + "x\" ! 249", "status(12) = 1",
                "--", "\"" + " ".repeat(250) + "\" ! 250", "status(12) = 1");
        e.promise(14, "THE TAPE is empty then, either way.", "\"book 5\" = 1", "status(6) = 0", "town() ! 0", "\"book 0\" ! 5",
                "status(6) = 0", "town() ! 0", "feed(0x6F6E6520, 4) = 4", "feed(0x33, 1) = 5", "town() = 1");
    }

    private void bookOf() {
        String town = "\"book 6;book 7 good 300;need 1 0;one 1;one 2;knows 0 1 40;knows 1 1 50;white 1\" = 8";
        e.promise(15, "Of a BOOK: WORTH (0), NEEDS (1), GOOD (2), 1 if WHITE (3), the greatest KNOWN of it (4).", town, "bookOf(1, 0) = 7",
                "bookOf(1, 1) = 1", "bookOf(1, 2) = 300", "bookOf(1, 3) = 1", "bookOf(1, 4) = 50", "bookOf(0, 0) = 6", "bookOf(0, 1) = 0",
                "bookOf(0, 2) = 1000", "bookOf(0, 3) = 0", "bookOf(0, 4) = 0", "alter(0, 1, 51)", "bookOf(1, 4) = 51", "alter(0, 1, 1000)",
                "bookOf(1, 4) = 1000",
                "--", "book(5, 0)", "bookOf(0, 4) = 0");
        e.promise(15, "BAD.", town, "bookOf(-1, 0) ! BAD", "bookOf(2, 0) ! BAD", "bookOf(0, -1) ! BAD", "bookOf(0, 5) ! BAD",
                "bookOf(1, 5) ! BAD", "bookOf(MIN, 0) ! BAD", "bookOf(0, MAX) ! BAD", "bookOf(0, MIN) ! BAD", "bookOf(0, 0) = 6",
                "bookOf(1, 4) = 50");
    }

    private void oneOf() {
        e.promise(16, "Of one: AGE (0), READS (1), KEEPS (2), TELLS (3), 1 if GONE (4).",
                "\"one 9 reads 1 keeps 2 tells 3;one 8 reads 4 keeps 6 tells 7\" = 2", "oneOf(0, 0) = 9", "oneOf(0, 1) = 1",
                "oneOf(0, 2) = 2", "oneOf(0, 3) = 3", "oneOf(0, 4) = 0", "ends() = 1", "oneOf(0, 0) = 10", "oneOf(0, 1) = 1",
                "oneOf(0, 2) = 2", "oneOf(0, 3) = 3", "oneOf(0, 4) = 1", "oneOf(1, 0) = 9", "oneOf(1, 4) = 0");
        e.promise(16, "BAD.", "\"one 9;one 8\" = 2", "oneOf(-1, 0) ! BAD", "oneOf(2, 0) ! BAD", "oneOf(0, -1) ! BAD", "oneOf(0, 5) ! BAD",
                "oneOf(1, 5) ! BAD", "oneOf(MIN, 0) ! BAD", "oneOf(MAX, 0) ! BAD", "oneOf(1, 0) = 8", "oneOf(1, 4) = 0");
    }

    private void known() {
        String town = "\"book 6;book 7;one 1;one 2;one 9;knows 0 1 40;knows 1 0 50;knows 2 0 60\" = 8";
        e.promise(17, "KNOWN.", town, "known(0, 0) = 0", "known(0, 1) = 40", "known(1, 0) = 50", "known(1, 1) = 0", "known(2, 0) = 60",
                "ends() = 1", "known(2, 0) = 0");
        e.promise(17, "BAD.", town, "known(-1, 0) ! BAD", "known(3, 0) ! BAD", "known(0, -1) ! BAD", "known(0, 2) ! BAD", "known(2, 1) = 0",
                "known(MAX, MAX) ! BAD", "known(MIN, 0) ! BAD", "known(0, MIN) ! BAD");
    }

    private void alter() {
        String town = "\"book 6;book 6;one 1;one 9;knows 0 0 40\" = 5";
        e.promise(18, "KNOWN becomes v (0 to 1,000): what it was.", town, "alter(0, 0, 999) = 40", "alter(0, 0, 1000) = 999",
                "alter(0, 0, 1) = 1000", "alter(0, 0, 0) = 1", "alter(0, 0, 0) = 0", "known(0, 0) = 0", "alter(1, 1, 5) = 0",
                "known(1, 1) = 5", "known(0, 1) = 0", "known(1, 0) = 0", "alter(0, 0, 1001) ! BAD", "alter(0, 0, -1) ! BAD");
        e.promise(18, "BAD;", town, "alter(-1, 0, 1) ! BAD", "alter(2, 0, 1) ! BAD", "alter(0, -1, 1) ! BAD", "alter(0, 2, 1) ! BAD",
                "alter(1, 1, 1) = 0", "alter(0, 0, MIN) ! BAD", "alter(0, 0, MAX) ! BAD", "ends() = 1", "alter(1, 0, 1001) ! BAD",
                "alter(1, 0, -1) ! BAD", "alter(1, 2, 1) ! BAD", "alter(1, -1, 1) ! BAD");
        e.promise(18, "STUCK: they are GONE.", town, "alter(1, 0, 7) = 0", "ends() = 1", "alter(1, 0, 1) ! STUCK", "alter(1, 0, 0) ! STUCK",
                "alter(1, 1, 1000) ! STUCK", "known(1, 0) = 0", "alter(0, 0, 1) = 38",
                // By a DRAW as well.
                "--", "\"book 6;one 9;knows 0 0 40\" = 3", "rule(0, 4, 0)", "seed(0)", "years(0, 1)", "known(0, 0) = 40",
                "alter(0, 0, 41) ! STUCK");
    }
}
