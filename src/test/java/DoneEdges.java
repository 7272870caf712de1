/** The edges that promises 19 to 26 name. */
final class DoneEdges {
    private final Edges e;

    private DoneEdges(Edges e) {
        this.e = e;
    }

    static void all(Edges e) {
        DoneEdges t = new DoneEdges(e);
        t.ground();
        t.would();
        t.read();
        t.aloud();
        t.aloudRefusals();
        t.tell();
        t.write();
        t.value();
        t.reader();
    }

    private void ground() {
        String town = "\"book 1;book 1;book 1;need 2 0;need 2 1;one 1;one 9;knows 0 0 300;knows 0 1 200;knows 1 0 900;knows 1 1 901\" = 11";
        e.promise(19, "GROUND.", town, "ground(0, 0) = 1000", "ground(0, 1) = 1000", "ground(0, 2) = 200", "ground(1, 2) = 900",
                "ends() = 1", "ground(1, 2) = 0", "ground(1, 0) = 1000", "read(0, 2)", "ground(0, 2) = 190");
        e.promise(19, "BAD.", town, "ground(-1, 0) ! BAD", "ground(2, 0) ! BAD", "ground(0, -1) ! BAD", "ground(0, 3) ! BAD",
                "ground(1, 2) = 900", "ground(MIN, MAX) ! BAD", "ground(0, MIN) ! BAD");
        // All of seven needs, the last as well as the first.
        e.promise(19, "GROUND.", "\"book 1;book 1;book 1;book 1;book 1;book 1;book 1;one 3\" = 8", "book(1, 127) = 7", "alter(0, 0, 500)",
                "alter(0, 1, 500)", "alter(0, 2, 500)", "alter(0, 3, 500)", "alter(0, 4, 500)", "alter(0, 5, 500)", "ground(0, 7) = 0",
                "alter(0, 6, 499)", "ground(0, 7) = 499", "alter(0, 6, 501)", "ground(0, 7) = 500", "alter(0, 0, 498)",
                "ground(0, 7) = 498");
    }

    private void would() {
        String town = "\"book 1 good 777;book 1;one 1 reads 7;one 9 reads 10;one 1 reads 0;knows 2 0 5;white 1\" = 7";
        e.promise(20, "What one would know of a BOOK, if they read it now.", town, "would(0, 0) = 543", "would(1, 0) = 777",
                "would(2, 0) = 5", "known(0, 0) = 0", "bookOf(0, 3) = 0", "alter(0, 0, 542)", "would(0, 0) = 543", "alter(0, 0, 543)",
                "would(0, 0) = 543", "alter(0, 0, 544)", "would(0, 0) = 544", "read(0, 0) = 544");
        e.promise(20, "BAD;", town, "would(-1, 0) ! BAD", "would(3, 0) ! BAD", "would(0, -1) ! BAD", "would(0, 2) ! BAD", "would(2, 0) = 5",
                "would(3, 1) ! BAD", "ends() = 1", "would(1, 2) ! BAD", "would(1, -1) ! BAD", "would(MIN, 1) ! BAD");
        e.promise(20, "STUCK: WHITE, GONE.", town, "would(0, 1) ! STUCK", "would(1, 0) = 777", "ends() = 1", "would(1, 0) ! STUCK",
                "would(1, 1) ! STUCK", "would(0, 0) = 543", "alter(0, 1, 5)", "write(0, 1) = 5", "would(0, 1) = 5", "would(1, 1) ! STUCK");
    }

    private void read() {
        String town = "\"book 1 good 777;book 1;book 1;one 1 reads 7;one 9 reads 10;one 1 reads 0;knows 2 0 5;white 1\" = 8";
        e.promise(21, "READING: what they know then.", town, "read(0, 0) = 543", "known(0, 0) = 543", "bookOf(0, 3) = 1", "known(1, 0) = 0",
                "read(2, 2) = 0", "bookOf(2, 3) = 1",
                "--", town, "read(2, 0) = 5", "bookOf(0, 3) = 1", "status(1) = 2");
        e.promise(21, "BAD;", town, "read(-1, 0) ! BAD", "read(3, 0) ! BAD", "read(0, -1) ! BAD", "read(0, 3) ! BAD", "read(3, 1) ! BAD",
                "status(1) = 1", "ends() = 1", "read(1, 3) ! BAD", "read(MAX, MAX) ! BAD");
        e.promise(21, "STUCK likewise.", town, "read(0, 1) ! STUCK", "known(0, 1) = 0", "read(0, 0) = 543", "read(0, 0) ! STUCK",
                "read(1, 0) ! STUCK", "ends() = 1", "read(1, 2) ! STUCK", "read(1, 1) ! STUCK", "bookOf(2, 3) = 0", "read(0, 2) = 700");
    }

    private void aloud() {
        String words = "READING ALOUD to a set of PEOPLE (bits; the reader, those GONE don't count): how many of these know more of it then.";
        e.promise(22, words, "\"book 1;one 1 reads 10;one 2;one 9;one 3;one 4\" = 6", "ends() = 1", "aloud(0, 0, 31) = 3",
                "known(0, 0) = 1000", "known(1, 0) = 500", "known(2, 0) = 0", "known(3, 0) = 500", "known(4, 0) = 500",
                // Nobody, the reader alone, one GONE alone: it is read all the same.
                "--", "\"book 1;one 1 reads 10;one 2\" = 3", "aloud(0, 0, 0) = 0", "known(0, 0) = 1000", "known(1, 0) = 0",
                "bookOf(0, 3) = 1",
                "--", "\"book 1;one 1 reads 10;one 2\" = 3", "aloud(0, 0, 1) = 0", "known(0, 0) = 1000", "known(1, 0) = 0",
                "bookOf(0, 3) = 1",
                "--", "\"book 1;one 9;one 1 reads 10\" = 3", "ends() = 1", "aloud(1, 0, 1) = 0", "known(0, 0) = 0", "known(1, 0) = 1000",
                "--", "\"book 1;one 9;one 1 reads 10;one 1\" = 4", "ends() = 1", "aloud(1, 0, 7) = 1", "known(2, 0) = 500",
                // One GONE by a DRAW, whose KNOWN stays, hears nothing either.
                "--", "\"book 1;one 9;one 0 reads 10;knows 0 0 3\" = 4", "rule(0, 4, 0)", "seed(0)", "years(0, 1)", "oneOf(0, 4) = 1",
                "known(0, 0) = 3", "aloud(1, 0, 3) = 0", "known(0, 0) = 3",
                // To all eight, of which seven are others.
                "--", "\"book 1;one 1 reads 10;one 1;one 1;one 1;one 1;one 1;one 1;one 1\" = 9", "aloud(7, 0, 255) = 7",
                "known(7, 0) = 500", "known(0, 0) = 250", "known(6, 0) = 250");
        // As much as they know already is not more.
        e.promise(22, words, "\"book 1;one 1 reads 10;one 2;one 2;one 2;knows 1 0 499;knows 2 0 500;knows 3 0 501\" = 8",
                "aloud(0, 0, 14) = 1", "known(1, 0) = 500", "known(2, 0) = 500", "known(3, 0) = 501");
    }

    private void aloudRefusals() {
        String town = "\"book 1;book 1;white 1;one 1 reads 10;one 9;one 2\" = 6";
        e.promise(22, "BAD;", town, "aloud(-1, 0, 0) ! BAD", "aloud(3, 0, 0) ! BAD", "aloud(0, -1, 0) ! BAD", "aloud(0, 2, 0) ! BAD",
                "aloud(0, 0, 8) ! BAD", "aloud(0, 0, 15) ! BAD", "aloud(0, 0, -1) ! BAD", "aloud(0, 0, MIN) ! BAD",
                "aloud(0, 0, 256) ! BAD", "aloud(0, 1, 8) ! BAD", "ends() = 1", "aloud(1, 0, 8) ! BAD", "aloud(1, 2, 0) ! BAD",
                "aloud(0, 0, 7) = 1");
        e.promise(22, "STUCK likewise.", town, "aloud(0, 1, 4) ! STUCK", "known(2, 1) = 0", "ends() = 1", "aloud(1, 0, 5) ! STUCK",
                "aloud(1, 1, 5) ! STUCK", "known(0, 0) = 0", "bookOf(0, 3) = 0", "aloud(0, 0, 0) = 0", "aloud(0, 0, 0) ! STUCK");
    }

    private void tell() {
        String town = "\"book 1;book 1;one 1 tells 7;one 2 tells 10;one 9 tells 10;knows 0 0 555;knows 1 0 380;knows 2 0 999\" = 8";
        e.promise(23, "TELLING: by how much the other knows more then.", town, "tell(0, 1, 0) = 8", "known(1, 0) = 388",
                "tell(0, 1, 0) = 0", "tell(1, 0, 0) = 0", "known(0, 0) = 555", "tell(2, 0, 0) = 444", "known(0, 0) = 999",
                "tell(0, 1, 1) = 0", "alter(2, 0, 1000)", "alter(1, 0, 0)", "tell(2, 1, 0) = 1000", "known(1, 0) = 1000");
        e.promise(23, "BAD: also to themselves;", town, "tell(-1, 0, 0) ! BAD", "tell(3, 0, 0) ! BAD", "tell(0, -1, 0) ! BAD",
                "tell(0, 3, 0) ! BAD", "tell(0, 1, -1) ! BAD", "tell(0, 1, 2) ! BAD", "tell(0, 0, 0) ! BAD", "tell(2, 2, 0) ! BAD",
                "ends() = 1", "tell(2, 2, 0) ! BAD", "tell(2, 0, 2) ! BAD", "tell(0, 2, -1) ! BAD", "tell(2, 3, 0) ! BAD",
                "tell(MIN, MIN, 0) ! BAD", "tell(3, 3, 0) ! BAD");
        e.promise(23, "STUCK: one is GONE.", town, "ends() = 1", "tell(2, 0, 0) ! STUCK", "tell(0, 2, 0) ! STUCK", "known(2, 0) = 0",
                "tell(0, 1, 0) = 7",
                "--", "\"book 1;one 9;one 9\" = 3", "ends() = 2", "tell(0, 1, 0) ! STUCK",
                "--", "\"book 1;one 9 tells 10;one 0 tells 10;knows 0 0 900\" = 4", "rule(0, 2, 0)", "seed(0)", "years(0, 1)",
                "tell(0, 1, 0) ! STUCK", "known(1, 0) = 0", "known(0, 0) = 900", "alter(1, 0, 1000)", "tell(1, 0, 0) ! STUCK",
                "known(0, 0) = 900");
    }

    private void write() {
        String town = "\"book 9;book 1;one 1;one 9 keeps 10;one 2;knows 0 0 555;knows 2 0 1;knows 0 1 4;white 0\" = 9";
        e.promise(24, "WRITING: GOOD then.", town, "write(0, 0) = 555", "bookOf(0, 2) = 555", "bookOf(0, 3) = 0", "status(1) = 0", "--",
                town, "write(2, 0) = 1", "bookOf(0, 2) = 1",
                "--", town, "alter(0, 0, 1000)", "write(0, 0) = 1000", "bookOf(0, 2) = 1000");
        e.promise(24, "BAD;", town, "write(-1, 0) ! BAD", "write(3, 0) ! BAD", "write(0, -1) ! BAD", "write(0, 2) ! BAD",
                "write(3, 1) ! BAD", "ends() = 1", "write(1, 2) ! BAD", "write(MAX, MIN) ! BAD", "bookOf(0, 3) = 1");
        e.promise(24, "STUCK: not WHITE, GONE, nothing KNOWN.", town, "write(0, 1) ! STUCK", "write(1, 0) ! STUCK", "alter(1, 0, 1)",
                "write(1, 0) = 1", "write(1, 0) ! STUCK", "bookOf(0, 2) = 1",
                "--", town, "ends() = 1", "write(1, 0) ! STUCK", "write(1, 1) ! STUCK", "write(2, 0) ! STUCK", "write(0, 0) = 527",
                // One GONE by a DRAW knows it still.
                "--", "\"book 9;one 9;knows 0 0 700;white 0\" = 4", "rule(0, 4, 0)", "seed(0)", "years(0, 1)", "known(0, 0) = 700",
                "write(0, 0) ! STUCK", "bookOf(0, 2) = 1000", "bookOf(0, 3) = 1");
    }

    private void value() {
        e.promise(25, "VALUE.", "value() = 0", "\"book 9;book 99;book 1\" = 3", "value() = 0",
                "\"one 1;one 9;knows 0 0 1;knows 1 1 999;knows 1 0 2;white 0\" = 6", "value() = 98919", "alter(0, 0, 2)", "value() = 98919",
                "alter(0, 0, 3)", "value() = 98928", "ends() = 1", "value() = 18");
    }

    private void reader() {
        e.promise(26, "THE READER of a BOOK; NONE: nobody is there.", "book(9, 0)", "reader(0) = NONE", "one(9, 0, 0, 0)", "reader(0) = 0",
                "one(8, 0, 0, 0)", "reader(0) = 1", "one(8, 1, 0, 0)", "reader(0) = 2", "ends() = 1", "ends() = 2", "reader(0) = NONE",
                "status(15) = 0",
                "--", "\"book 9;one 9 reads 10;one 0 reads 1\" = 3", "rule(0, 4, 0)", "reader(0) = 0", "seed(0)", "years(0, 1)",
                "oneOf(0, 0) = 9", "reader(0) = 1");
        e.promise(26, "BAD;", "book(9, 0)", "one(1, 1, 1, 1)", "reader(-1) ! BAD", "reader(0) = 0", "reader(1) ! BAD", "reader(MIN) ! BAD",
                "reader(MAX) ! BAD");
        e.promise(26, "STUCK: WHITE.", "\"book 9;book 8;one 3;white 1\" = 4", "reader(0) = 0", "reader(1) ! STUCK", "read(0, 0)",
                "reader(0) ! STUCK",
                "--", "\"book 9;white 0\" = 2", "reader(0) ! STUCK", "book(9, 0)", "reader(1) = NONE");
    }
}
