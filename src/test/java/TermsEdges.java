/** The edges that Terms name: the town, the tape, what is done. */
final class TermsEdges {
    private final Edges e;

    private TermsEdges(Edges e) {
        this.e = e;
    }

    static void all(Edges e) {
        TermsEdges t = new TermsEdges(e);
        t.books();
        t.people();
        t.tape();
        t.tokens();
        t.statements();
        t.faults();
        t.faultsOfNumbers();
        t.faultsOfWhatIsNot();
        t.endsTooEarly();
        t.groundAndReading();
        t.aloudAndTelling();
        t.writing();
        t.yearEnds();
        t.value();
    }

    private void books() {
        e.terms("BOOKS have numbers, 0 on, 8 at most:",
                "bookOf(0, 0) ! BAD", "book(1, 0) = 0", "bookOf(-1, 0) ! BAD", "bookOf(0, 0) = 1", "bookOf(1, 0) ! BAD", "book(2, 0) = 1",
                "book(3, 0) = 2", "book(4, 0) = 3", "book(5, 0) = 4", "book(6, 0) = 5", "book(7, 0) = 6", "bookOf(7, 0) ! BAD",
                "book(8, 0) = 7", "bookOf(7, 0) = 8", "bookOf(8, 0) ! BAD", "book(9, 0) ! FULL", "status(0) = 8", "book(9, 0) ! FULL",
                "bookOf(7, 0) = 8",
                "--", "\"book 1;book 2;book 3;book 4;book 5;book 6;book 7\" = 7", "\"book 8;book 9\" ! 7", "status(0) = 7",
                "\"book 8\" = 1", "\"book 9\" ! 0", "status(0) = 8", "bookOf(7, 0) = 8");
        e.terms("a WORTH (1 to 99)", "book(1, 0) = 0", "bookOf(0, 0) = 1", "book(99, 0) = 1", "bookOf(1, 0) = 99",
                "book(0, 0) ! BAD", "book(100, 0) ! BAD", "book(-1, 0) ! BAD", "book(-99, 0) ! BAD",
                "--", "\"book 0\" ! 5", "\"book 1\" = 1", "\"book 2\" = 1", "\"book 98\" = 1", "\"book 99\" = 1", "\"book 100\" ! 5",
                "bookOf(0, 0) = 1", "bookOf(1, 0) = 2", "bookOf(2, 0) = 98", "bookOf(3, 0) = 99");
        e.limits(1, 99, "book(%d, 0)");
        e.terms("NEEDS (a set of BOOKS of lesser numbers, as bits)",
                "book(1, 1) ! BAD", "book(1, 0) = 0", "book(1, 2) ! BAD", "book(1, 1) = 1", "book(1, 4) ! BAD", "book(1, 3) = 2",
                "book(1, 8) ! BAD", "book(1, 9) ! BAD", "book(1, 4) = 3", "book(1, 15) = 4", "book(1, 16) = 5", "book(1, 32) = 6",
                "book(1, 128) ! BAD", "book(1, 255) ! BAD", "book(1, 127) = 7", "bookOf(0, 1) = 0", "bookOf(1, 1) = 1", "bookOf(2, 1) = 3",
                "bookOf(3, 1) = 4", "bookOf(4, 1) = 15", "bookOf(7, 1) = 127",
                "--", "book(1, -1) ! BAD", "book(1, MIN) ! BAD", "book(1, MAX) ! BAD", "book(1, 256) ! BAD");
        e.terms("GOOD (0 to 1,000: how much there is in it; 1,000 at first)",
                "book(5, 0) = 0", "bookOf(0, 2) = 1000", "one(0, 10, 10, 10) = 0", "read(0, 0) = 1000", "write(0, 0) = 1000",
                "bookOf(0, 2) = 1000",
                "--", "\"book 5 good 0;book 5 good 1;book 5 good 999;book 5;one 3 reads 10\" = 5", "bookOf(0, 2) = 0", "bookOf(1, 2) = 1",
                "bookOf(2, 2) = 999", "bookOf(3, 2) = 1000", "read(0, 0) = 0", "read(0, 1) = 1", "read(0, 2) = 999", "read(0, 3) = 1000");
        e.terms(", WHITE or not (at first not).",
                "book(5, 0) = 0", "one(3, 5, 5, 5) = 0", "bookOf(0, 3) = 0", "status(1) = 0", "read(0, 0) = 500", "bookOf(0, 3) = 1",
                "status(1) = 1");
    }

    private void people() {
        e.terms("PEOPLE have numbers, 0 on, 8 at most:",
                "oneOf(0, 0) ! BAD", "one(1, 5, 5, 5) = 0", "oneOf(-1, 0) ! BAD", "oneOf(0, 0) = 1", "oneOf(1, 0) ! BAD",
                "one(2, 5, 5, 5) = 1", "one(3, 5, 5, 5) = 2", "one(4, 5, 5, 5) = 3", "one(5, 5, 5, 5) = 4", "one(6, 5, 5, 5) = 5",
                "one(7, 5, 5, 5) = 6", "oneOf(7, 0) ! BAD", "one(8, 5, 5, 5) = 7", "oneOf(7, 0) = 8", "oneOf(8, 0) ! BAD",
                "one(9, 5, 5, 5) ! FULL", "status(2) = 8",
                "--", "\"one 1;one 2;one 3;one 4;one 5;one 6;one 7\" = 7", "\"one 8;one 9\" ! 6", "status(2) = 7", "\"one 8\" = 1",
                "\"one 9\" ! 0", "status(2) = 8", "oneOf(7, 0) = 8",
                // Those who are GONE keep their numbers.
                "--", "\"one 9;one 9;one 9;one 9;one 9;one 9;one 9;one 9\" = 8", "ends() = 8", "one(1, 1, 1, 1) ! FULL", "\"one 1\" ! 0");
        e.terms("an AGE (0 to 9)", "one(0, 5, 5, 5) = 0", "oneOf(0, 0) = 0", "one(9, 5, 5, 5) = 1", "oneOf(1, 0) = 9",
                "one(10, 5, 5, 5) ! BAD", "one(-1, 5, 5, 5) ! BAD", "\"one 0;one 9\" = 2", "\"one 10\" ! 4", "oneOf(2, 0) = 0",
                "oneOf(3, 0) = 9");
        e.limits(0, 9, "one(%d, 5, 5, 5)");
        e.terms("READS, KEEPS, TELLS (0 to 10 each)",
                "one(1, 0, 10, 1) = 0", "oneOf(0, 1) = 0", "oneOf(0, 2) = 10", "oneOf(0, 3) = 1", "one(1, 10, 1, 0) = 1",
                "oneOf(1, 1) = 10", "oneOf(1, 2) = 1", "oneOf(1, 3) = 0", "one(1, 9, 0, 10) = 2", "oneOf(2, 1) = 9", "oneOf(2, 2) = 0",
                "oneOf(2, 3) = 10", "one(1, 11, 5, 5) ! BAD", "one(1, 5, 11, 5) ! BAD", "one(1, 5, 5, 11) ! BAD", "one(1, -1, 5, 5) ! BAD",
                "one(1, 5, -1, 5) ! BAD", "one(1, 5, 5, -1) ! BAD", "\"one 1 reads 11\" ! 12", "\"one 1 keeps 11\" ! 12",
                "\"one 1 tells 11\" ! 12", "\"one 1 reads 10 keeps 10 tells 10\" = 1", "oneOf(3, 1) = 10", "oneOf(3, 2) = 10",
                "oneOf(3, 3) = 10", "\"one 1 reads 0 keeps 0 tells 0\" = 1", "oneOf(4, 1) = 0", "oneOf(4, 2) = 0", "oneOf(4, 3) = 0");
        e.limits(0, 10, "one(5, %d, 5, 5)");
        e.limits(0, 10, "one(5, 5, %d, 5)");
        e.limits(0, 10, "one(5, 5, 5, %d)");
        e.terms("; there, or GONE (at first there).",
                "one(9, 5, 5, 5) = 0", "oneOf(0, 4) = 0", "status(3) = 0", "one(8, 5, 5, 5) = 1", "ends() = 1", "oneOf(0, 4) = 1",
                "oneOf(1, 4) = 0", "status(3) = 1");
        e.terms("KNOWN of one and a BOOK: 0 to 1,000 (0 at first).",
                "\"book 5;one 3;one 3;book 5\" = 4", "known(0, 0) = 0", "known(1, 1) = 0", "alter(0, 0, 1000) = 0", "known(0, 0) = 1000",
                "alter(0, 0, 1001) ! BAD", "alter(0, 0, -1) ! BAD", "known(0, 0) = 1000", "known(1, 0) = 0", "known(0, 1) = 0",
                "alter(0, 0, 0) = 1000", "known(0, 0) = 0");
        e.limits(0, 1000, "alter(0, 0, %d)", "\"book 5;one 3\" = 2");
    }

    private void tape() {
        String blanks = " ".repeat(238);
        e.terms("A TOWN is read from THE TAPE (bytes, 250 at most).",
                Edges.times(62, "feed(0x20202020, 4)", "status(6) = 248", "feed(0x202020, 3) ! FULL", "feed(0x20, 1) = 249",
                "feed(0x2020, 2) ! FULL", "feed(0x20, 1) = 250", "feed(0x20, 1) ! FULL", "status(6) = 250", "town() ! 250", "status(6) = 0",
                "feed(0x20, 1) = 1"));
        e.terms("A TOWN is read from THE TAPE (bytes, 250 at most).",
                "\"book 5" + blanks + ";one 3\" = 2", "bookOf(0, 0) = 5", "oneOf(0, 0) = 3",
                "--", "\"book 5" + blanks + ";one z\" ! 249",
                "--", "\"book 5" + blanks + "; one \" ! 250",
                "--", "\"book 5" + blanks + "one 33\" ! 244",
                // A byte keeps its eight bits: 0x80 and 0xFF are none of those that begin a token, nor is 0x100 and '5' another than '5'.
                "--", "feed(0x80, 1) = 1", "town() ! 0", "feed(0xFF, 1) = 1", "town() ! 0", "feed(0x6F6E6520, 4) = 4", "feed(0x135, 1) = 5",
                "town() = 1", "oneOf(0, 0) = 5");
    }

    private void tokens() {
        e.terms("TOKENS, each as long as can be: WORDS (a .. z)",
                "\"book5good7\" = 1", "bookOf(0, 2) = 7", "\"bookgood 5\" ! 0", "\"booka 5\" ! 0", "\"bookz 5\" ! 0", "\"book`5\" ! 4",
                "\"book{5\" ! 4", "\"abook 5\" ! 0", "\"zbook 5\" ! 0", "\"bookA 5\" ! 4", "\"bookZ 5\" ! 4", "\"boo k 5\" ! 0",
                "\"onereads 5\" ! 0", "\"book 5 goodgood 5\" ! 7", "\"one 3reads4keeps5tells6\" = 1", "oneOf(0, 3) = 6",
                "\"book 5 goods 7\" ! 7", "\"book 5 goo 7\" ! 7", "\"whit 0\" ! 0", "\"whites 0\" ! 0");
        e.terms("NUMBERS (digits)",
                "\"book 90\" = 1", "bookOf(0, 0) = 90", "\"book 9 0\" ! 7", "\"book 09\" = 1", "bookOf(1, 0) = 9", "\"book /\" ! 5",
                "\"book 5/\" ! 6", "\"book :\" ! 5", "\"book 5:\" ! 6", "\"book 1a\" ! 6", "\"book -5\" ! 5", "\"book +5\" ! 5",
                "\"book 5.\" ! 6", "\"book 12\" = 1", "bookOf(2, 0) = 12", "\"book 34\" = 1", "bookOf(3, 0) = 34", "\"book 56\" = 1",
                "bookOf(4, 0) = 56", "\"book 78\" = 1", "bookOf(5, 0) = 78", "\"need 10\" ! 5", "\"need 1 0\" = 1");
        e.terms("the SIGN ;",
                "\"book 5;book 6\" = 2", "\"book 5:book 6\" ! 6", "\"book 5<book 6\" ! 6", "\"book 5;;book 6\" ! 7",
                "\"book 5,book 6\" ! 6", "status(0) = 2");
        e.terms("- blanks (32) may stand anywhere between.",
                "\"   book   5   good   7   ;   one   3   reads   4   \" = 2", "bookOf(0, 2) = 7", "oneOf(0, 1) = 4",
                "\"book 5;one 3\" = 2", "\"b ook 5\" ! 0", "\"book 5 5\" ! 7", "\"book!5\" ! 4", "\"book 5 \t\" ! 7", "\"book\n5\" ! 4",
                "\"\u001fbook 5\" ! 0", "feed(0x626F6F6B, 4) = 4", "feed(0x1F35, 2) = 6", "town() ! 4", "feed(0x626F6F6B, 4) = 4",
                "feed(0x2135, 2) = 6", "town() ! 4", "feed(0x626F6F6B, 4) = 4", "feed(0xA035, 2) = 6", "town() ! 4",
                "feed(0x626F6F6B, 4) = 4", "feed(0x2035, 2) = 6", "town() = 1");
    }

    private void statements() {
        String most = "white0;".repeat(34) + "white0";
        e.terms("STATEMENTS, one or more, with ; between:",
                "\"\" ! 0", "\" \" ! 1", "\";\" ! 0", "\"book 5\" = 1", "\"book 5;book 5\" = 2", "\"book 5;\" ! 7", "\";book 5\" ! 0",
                "\"book 5 book 5\" ! 7", "\"book 5;book 5;book 5\" = 3", "status(0) = 6",
                "--", "\"book 5;book 5;book 5;\" ! 21", "book(5, 0) = 0", "\"" + most + "\" = 35", "bookOf(0, 3) = 1");
        e.terms("book N (WORTH), perhaps good N;",
                "\"book 5\" = 1", "bookOf(0, 2) = 1000", "\"book 6 good 7\" = 1", "bookOf(1, 0) = 6", "bookOf(1, 2) = 7", "\"book\" ! 4",
                "\"book good 7\" ! 5", "\"book 5 good\" ! 11", "\"book 5 7\" ! 7", "\"book 5 good 7 good 7\" ! 14",
                "\"book 5 good good\" ! 12", "\"book 5 good ;\" ! 12", "\"good 5\" ! 0", "\"book 5 reads 5\" ! 7");
        e.terms("need I J (I needs J: J the lesser);",
                "\"book 5;book 5;book 5\" = 3", "\"need 2 1\" = 1", "bookOf(2, 1) = 2", "\"need 2 2\" ! 7", "\"need 2 0\" = 1",
                "bookOf(2, 1) = 3", "\"need 2 0\" = 1", "bookOf(2, 1) = 3", "\"need 1 1\" ! 7", "\"need 1 2\" ! 7", "\"need 1 0\" = 1",
                "bookOf(1, 1) = 1", "\"need 0 0\" ! 7", "\"need 0 1\" ! 7", "\"need 3 0\" ! 5", "\"need 2\" ! 6", "\"need 2 1 0\" ! 9",
                "\"need good\" ! 5", "bookOf(0, 1) = 0");
        e.terms("one A, perhaps reads N, then perhaps keeps N, then perhaps tells N (AGE; 5 each if not told);",
                "\"one 1;one 2 reads 3;one 2 keeps 3;one 2 tells 3;one 2 reads 3 keeps 4;one 2 reads 3 tells 4;one 2 keeps 3 tells 4;one 2 reads 3 keeps 4 tells 6\" = 8",
                "oneOf(0, 0) = 1", "oneOf(0, 1) = 5", "oneOf(0, 2) = 5", "oneOf(0, 3) = 5", "oneOf(1, 1) = 3", "oneOf(1, 2) = 5",
                "oneOf(1, 3) = 5", "oneOf(2, 1) = 5", "oneOf(2, 2) = 3", "oneOf(2, 3) = 5", "oneOf(3, 1) = 5", "oneOf(3, 2) = 5",
                "oneOf(3, 3) = 3", "oneOf(4, 1) = 3", "oneOf(4, 2) = 4", "oneOf(4, 3) = 5", "oneOf(5, 1) = 3", "oneOf(5, 2) = 5",
                "oneOf(5, 3) = 4", "oneOf(6, 1) = 5", "oneOf(6, 2) = 3", "oneOf(6, 3) = 4", "oneOf(7, 1) = 3", "oneOf(7, 2) = 4",
                "oneOf(7, 3) = 6",
                "--", "\"one 2 keeps 3 reads 4\" ! 14", "\"one 2 tells 3 keeps 4\" ! 14", "\"one 2 tells 3 reads 4\" ! 14",
                "\"one 2 reads 3 reads 4\" ! 14", "\"one 2 keeps 3 keeps 4\" ! 14", "\"one 2 tells 3 tells 4\" ! 14",
                "\"one 2 good 3\" ! 6", "\"one 2 3\" ! 6", "\"one reads 3\" ! 4", "\"one 2 reads\" ! 11", "\"one 2 reads keeps 3\" ! 12",
                "\"one 2 keeps tells 3\" ! 12", "\"one 2 tells ;\" ! 12", "\"one\" ! 3", "status(2) = 0");
        e.terms("knows P I N;",
                "\"book 5;book 6;one 2;one 3;knows 1 0 7\" = 5", "known(1, 0) = 7", "known(0, 1) = 0", "known(0, 0) = 0",
                "\"knows 0 1 999\" = 1", "known(0, 1) = 999", "\"knows 0 1 0\" = 1", "known(0, 1) = 0", "\"knows 1 1\" ! 9",
                "\"knows 1\" ! 7", "\"knows\" ! 5", "\"knows 1 1 1 1\" ! 12", "\"knows 1 one 1\" ! 8", "\"knows 0 1 5;knows 0 1 4\" = 2",
                "known(0, 1) = 4");
        e.terms("white I.",
                "\"book 5;book 6;white 1\" = 3", "bookOf(0, 3) = 0", "bookOf(1, 3) = 1", "\"white 1\" = 1", "bookOf(1, 3) = 1",
                "\"white\" ! 5", "\"white 0 1\" ! 8", "\"white white\" ! 6", "bookOf(0, 3) = 0", "status(1) = 1");
    }

    private void faults() {
        e.terms("All comes to what there is, or nothing.",
                "\"book 5;one 3;white 0;knows 0 0 7;book 9 good 3;need 1 0;x\" ! 56", "status(0) = 0", "status(1) = 0", "status(2) = 0",
                "\"book 5;one 3\" = 2", "\"white 0;knows 0 0 7;book 9;need 1 0;one 4;book 0\" ! 47", "bookOf(0, 3) = 0", "known(0, 0) = 0",
                "status(0) = 1", "status(2) = 1", "\"white 0;knows 0 0 7;book 9;need 1 0;one 4\" = 5", "bookOf(0, 3) = 1",
                "known(0, 0) = 7", "bookOf(1, 1) = 1", "status(0) = 2", "status(2) = 2");
        e.terms("The FAULT: the place of the first byte of the first TOKEN that can't stand there",
                "\"book 5;boks 6;book 0\" ! 7", "\"book   100\" ! 7", "\"book 5   good   1000\" ! 16", "\"   books\" ! 3",
                "\"one 3;one 10;one 11\" ! 10", "\"0\" ! 0", "\"book 5;5\" ! 7", "\"book book\" ! 5", "\"book ;\" ! 5");
        e.terms("a byte that begins none);",
                "\"book 5;{\" ! 7", "\"book 5;`\" ! 7", "\"book 5 {\" ! 7", "\"book 5;/\" ! 7", "\"book 5;:\" ! 7", "\"book 5;<\" ! 7",
                "\"book 5;!\" ! 7", "\"book 5;A\" ! 7", "\"book 5;Z\" ! 7", "\"book 5;@\" ! 7", "\"book 5;-\" ! 7", "\"book 5;_\" ! 7",
                "\"book 5\u0000\" ! 6", "\"book 5\u007f\" ! 6", "\"book 5\u0080\" ! 6", "\"book 5\u00ff\" ! 6", "\"book 5\u00e1\" ! 6",
                "\"book 5\u00b5\" ! 6", "\"book 5\u00bb\" ! 6", "\"book 5\u00a0\" ! 6", "\"BOOK 5\" ! 0", "\"book \u00b5\" ! 5",
                "status(0) = 0");
    }

    private void faultsOfNumbers() {
        e.terms("(also a NUMBER that may not be,",
                "\"book 5;book 5;one 3\" = 3", "\"book 0\" ! 5", "\"book 100\" ! 5", "\"book 00\" ! 5", "\"book 000\" ! 5",
                "\"one 10\" ! 4", "\"one 3 reads 11\" ! 12", "\"one 3 keeps 11\" ! 12", "\"one 3 tells 11\" ! 12",
                "\"one 3 reads 99 keeps 99\" ! 12", "\"one 3 reads 10 keeps 11\" ! 21", "\"one 3 keeps 10 tells 11\" ! 21",
                "\"one 3 reads 10 keeps 10 tells 11\" ! 30", "\"need 1 1\" ! 7", "\"need 2 5\" ! 5", "\"knows 1 5 5\" ! 6",
                "\"knows 0 2 1000\" ! 8", "\"knows 0 0 1000\" ! 10", "\"white 2\" ! 6");
        e.terms("or has more than 3 digits: 1,000 can't be told so;",
                "\"book 5 good 999\" = 1", "bookOf(0, 2) = 999", "\"book 5 good 1000\" ! 12", "\"book 5 good 0999\" ! 12",
                "\"book 5 good 099\" = 1", "bookOf(1, 2) = 99", "\"book 05\" = 1", "\"book 005\" = 1", "\"book 0005\" ! 5",
                "bookOf(3, 0) = 5", "\"one 003 reads 010\" = 1", "oneOf(0, 1) = 10", "\"one 0003\" ! 4", "\"one 3 reads 0005\" ! 12",
                "\"one 3 keeps 0005\" ! 12", "\"one 3 tells 0005\" ! 12", "\"knows 000 000 999\" = 1", "known(0, 0) = 999",
                "\"knows 0000 0 1\" ! 6", "\"knows 0 0000 1\" ! 8", "\"knows 0 0 0001\" ! 10", "\"knows 0 0 1000\" ! 10",
                "\"white 0000\" ! 6", "\"white 000\" = 1", "\"need 0001 0\" ! 5", "\"need 1 0000\" ! 7", "\"need 001 000\" = 1",
                "\"book 4294967297\" ! 5", "\"book 18446744073709551621\" ! 5", "\"book 00000000000000000000000000000000000000005\" ! 5");
    }

    private void faultsOfWhatIsNot() {
        e.terms("what there is no room for: its word;",
                "\"book 1;book 1;book 1;book 1;book 1;book 1;book 1;book 1;book 1\" ! 56", "status(0) = 0",
                "\"book 1;book 1;book 1;book 1;book 1;book 1;book 1;book 1\" = 8", "\"one 1;book 0\" ! 6", "\"  book\" ! 2",
                "\"book 5 good 1000\" ! 0", "\"white 0\" = 1",
                "--", "\"one 1;one 1;one 1;one 1;one 1;one 1;one 1;one 1;one 1\" ! 48", "status(2) = 0",
                "\"one 1;one 1;one 1;one 1;one 1;one 1;one 1;one 1\" = 8", "\"book 1;one 11\" ! 7", "\"  one\" ! 2",
                "\"book 1;knows 7 0 5\" = 2", "known(7, 0) = 5");
        e.terms("a BOOK, one of the PEOPLE there isn't then;",
                "\"white 0\" ! 6", "\"white 0;book 5\" ! 6", "\"book 5;white 1\" ! 13", "\"book 5;white 0\" = 2", "\"white 1;book 5\" ! 6",
                "\"book 5;white 1\" = 2", "\"white 2\" ! 6", "\"knows 0 0 5;one 3\" ! 6", "\"one 3;knows 1 0 5\" ! 12",
                "\"one 3;knows 0 2 5\" ! 14", "\"one 3;knows 0 1 5\" = 2", "known(0, 1) = 5", "\"need 2 0;book 5\" ! 5", "\"need 2 0\" ! 5",
                "\"book 5;need 2 0\" = 2", "\"need 3 0\" ! 5", "\"need 2 3\" ! 7", "\"knows 1 0 5\" ! 6", "\"knows 999 0 5\" ! 6",
                "\"white 999\" ! 6", "\"knows 0 3 5\" ! 8");
    }

    private void endsTooEarly() {
        e.terms("THE TAPE's size, if it ends too early.",
                "\"book 5;book 5;one 3\" = 3", "\"\" ! 0", "\"    \" ! 4", "\"book\" ! 4", "\"book \" ! 5", "\"book   \" ! 7",
                "\"book 5;\" ! 7", "\"book 5;  \" ! 9", "\"book 5 good\" ! 11", "\"book 5 good  \" ! 13", "\"need\" ! 4", "\"need 1\" ! 6",
                "\"need 1 \" ! 7", "\"need 0\" ! 6", "\"one\" ! 3", "\"one 3 reads\" ! 11", "\"one 3 keeps \" ! 12", "\"one 3 tells\" ! 11",
                "\"one 3 reads 4 keeps\" ! 19", "\"knows\" ! 5", "\"knows 0\" ! 7", "\"knows 0 0\" ! 9", "\"knows 0 0 \" ! 10",
                "\"white\" ! 5", "\"white \" ! 6", "\"white 0;\" ! 8", "status(0) = 2", "status(2) = 1", "status(1) = 0");
    }

    private void groundAndReading() {
        e.terms("GROUND of one for a BOOK: the least KNOWN of its NEEDS (1,000 without any).",
                "\"book 1;book 1;book 1;need 2 0;need 2 1;one 3;one 3\" = 7", "ground(0, 0) = 1000", "ground(0, 1) = 1000",
                "ground(0, 2) = 0", "alter(0, 0, 1000)", "ground(0, 2) = 0", "alter(0, 1, 999)", "ground(0, 2) = 999", "alter(0, 0, 998)",
                "ground(0, 2) = 998", "alter(0, 0, 1000)", "alter(0, 1, 1000)", "ground(0, 2) = 1000", "alter(0, 1, 1)", "ground(0, 2) = 1",
                "ground(1, 2) = 0");
        // 197 times 7 by 10 is 137.9, cut 137; times 1,900 by 2,000 is 130.15; uncut it were 131.
        e.terms("READING of a BOOK (not WHITE) by one (there): KNOWN becomes GOOD times READS by 10, cut, times (GROUND and 1,000) by 2,000, cut, if that is more than it was; the BOOK is WHITE then.",
                "\"book 1;book 1 good 197;need 1 0;one 3 reads 7;knows 0 0 900;knows 0 1 129\" = 6", "read(0, 1) = 130",
                "known(0, 1) = 130", "bookOf(1, 3) = 1", "bookOf(0, 3) = 0", "bookOf(1, 2) = 197", "read(0, 1) ! STUCK",
                "--", "\"book 1;book 1 good 197;need 1 0;one 3 reads 7;knows 0 0 900;knows 0 1 130\" = 6", "read(0, 1) = 130",
                "known(0, 1) = 130", "bookOf(1, 3) = 1",
                "--", "\"book 1;book 1 good 197;need 1 0;one 3 reads 7;knows 0 0 900;knows 0 1 131\" = 6", "read(0, 1) = 131",
                "known(0, 1) = 131", "bookOf(1, 3) = 1",
                "--", "\"book 1 good 9;one 3 reads 1;book 1 good 10;book 1 good 11;book 1 good 999\" = 5", "read(0, 0) = 0",
                "bookOf(0, 3) = 1", "read(0, 1) = 1", "read(0, 2) = 1", "read(0, 3) = 99",
                "--", "\"book 1;book 1 good 1;book 1 good 2;need 1 0;need 2 0;one 3 reads 10;knows 0 0 999\" = 7", "read(0, 1) = 0",
                "read(0, 2) = 1",
                "--", "\"book 1;one 3 reads 0;one 3 reads 10\" = 3", "would(0, 0) = 0", "would(1, 0) = 1000",
                "--", "\"book 1;one 9 reads 10;one 3\" = 3", "ends() = 1", "read(0, 0) ! STUCK", "read(1, 0) = 500");
    }

    private void aloudAndTelling() {
        // 999 are known, half of it, cut, is 499; by a ground of 999: 498.75. Half uncut were 499 then.
        e.terms("ALOUD to a set of others (there): each of these then knows half (cut) of what the reader knows of it then, times (their GROUND and 1,000) by 2,000, cut, if that is more.",
                "\"book 1;book 1 good 999;need 1 0;one 3 reads 10;one 4;one 4;one 4;knows 0 0 999\" = 8", "alter(0, 0, 1000)",
                "alter(1, 0, 999)", "alter(2, 0, 1000)", "alter(3, 0, 0)", "aloud(0, 1, 14) = 3", "known(0, 1) = 999", "known(1, 1) = 498",
                "known(2, 1) = 499", "known(3, 1) = 249", "bookOf(1, 3) = 1",
                "--", "\"book 1;one 3 reads 10;one 4;one 4;one 4;knows 1 0 499;knows 2 0 500;knows 3 0 501\" = 8", "aloud(0, 0, 14) = 1",
                "known(1, 0) = 500", "known(2, 0) = 500", "known(3, 0) = 501",
                "--", "\"book 1 good 1;book 1 good 2;book 1 good 3;one 3 reads 10;one 4\" = 5", "aloud(0, 0, 2) = 0", "known(1, 0) = 0",
                "aloud(0, 1, 2) = 1", "known(1, 1) = 1", "aloud(0, 2, 2) = 1", "known(1, 2) = 1",
                // What the reader knows then, though they learned less by it.
                "--", "\"book 1;one 3 reads 1;one 4;knows 0 0 801\" = 4", "aloud(0, 0, 2) = 1", "known(0, 0) = 801", "known(1, 0) = 400",
                "--", "\"book 1;one 3 reads 10;one 9;one 4;one 4\" = 5", "ends() = 1", "aloud(0, 0, 6) = 1", "known(1, 0) = 0",
                "known(2, 0) = 500", "known(3, 0) = 0");
        // 999 times 9 by 10 is 899.1.
        e.terms("TELLING of a BOOK by one to another (both there): the other's KNOWN becomes the teller's times TELLS (the teller's) by 10, cut, if that is more.",
                "\"book 1;one 3 tells 9;one 4 tells 10;one 4;one 4;knows 0 0 999;knows 1 0 898;knows 2 0 899;knows 3 0 900\" = 9",
                "tell(0, 1, 0) = 1", "known(1, 0) = 899", "tell(0, 2, 0) = 0", "known(2, 0) = 899", "tell(0, 3, 0) = 0",
                "known(3, 0) = 900", "known(0, 0) = 999", "tell(1, 0, 0) = 0", "known(0, 0) = 999",
                "--", "\"book 1;one 3 tells 0;one 4 tells 1;one 4 tells 10;knows 0 0 999\" = 5", "tell(0, 1, 0) = 0", "known(1, 0) = 0",
                "alter(1, 0, 9)", "tell(1, 2, 0) = 0", "alter(1, 0, 10)", "tell(1, 2, 0) = 1", "alter(1, 0, 19)", "tell(1, 2, 0) = 0",
                "alter(1, 0, 20)", "tell(1, 2, 0) = 1", "known(2, 0) = 2", "alter(2, 0, 1000)", "tell(2, 0, 0) = 1", "known(0, 0) = 1000",
                // A WHITE BOOK is told as well, and needs no ground.
                "--", "\"book 1;book 1;need 1 0;one 3 tells 10;one 4;knows 0 1 700;white 1\" = 7", "tell(0, 1, 1) = 700",
                "bookOf(1, 3) = 1");
    }

    private void writing() {
        e.terms("WRITING of a BOOK (WHITE) by one (there) who knows 1 at least of it: it isn't WHITE then, GOOD is what they know.",
                "\"book 1;white 0;one 3;one 3;knows 1 0 1\" = 5", "write(0, 0) ! STUCK", "bookOf(0, 3) = 1", "bookOf(0, 2) = 1000",
                "write(1, 0) = 1", "bookOf(0, 2) = 1", "bookOf(0, 3) = 0", "known(1, 0) = 1", "write(1, 0) ! STUCK",
                "--", "\"book 1;white 0;one 3;knows 0 0 2\" = 4", "write(0, 0) = 2", "bookOf(0, 2) = 2", "bookOf(0, 3) = 0",
                "--", "\"book 1 good 5;white 0;one 3\" = 3", "alter(0, 0, 1000)", "write(0, 0) = 1000", "bookOf(0, 2) = 1000",
                "--", "\"book 1;one 3;knows 0 0 2\" = 3", "write(0, 0) ! STUCK", "bookOf(0, 2) = 1000");
    }

    private void yearEnds() {
        e.terms("A YEAR ends: each who is there: KNOWN of each BOOK becomes it times (90 and KEEPS) by 100, cut;",
                "\"book 1;book 1;book 1;book 1;one 0 keeps 0;one 0 keeps 10;one 0 keeps 9;one 0 keeps 1\" = 8", "alter(0, 0, 1000)",
                "alter(0, 1, 1)", "alter(0, 2, 10)", "alter(0, 3, 11)", "alter(1, 0, 1000)", "alter(1, 1, 1)", "alter(1, 2, 999)",
                "alter(2, 0, 1000)", "alter(2, 1, 1)", "alter(2, 2, 100)", "alter(2, 3, 101)", "alter(3, 0, 1000)", "alter(3, 1, 2)",
                "ends() = 0", "known(0, 0) = 900", "known(0, 1) = 0", "known(0, 2) = 9", "known(0, 3) = 9", "known(1, 0) = 1000",
                "known(1, 1) = 1", "known(1, 2) = 999", "known(2, 0) = 990", "known(2, 1) = 0", "known(2, 2) = 99", "known(2, 3) = 99",
                "known(3, 0) = 910", "known(3, 1) = 1");
        e.terms("AGE is 1 more; at AGE 10 they are GONE (AGE 10, KNOWN all 0).",
                "\"book 1;book 1;one 0 keeps 10;one 7 keeps 10;one 8 keeps 10;one 9 keeps 10;knows 1 0 700;knows 2 0 800;knows 3 0 900;knows 3 1 901\" = 10",
                "ends() = 1", "oneOf(0, 0) = 1", "oneOf(1, 0) = 8", "oneOf(2, 0) = 9", "oneOf(3, 0) = 10", "oneOf(1, 4) = 0",
                "oneOf(2, 4) = 0", "oneOf(3, 4) = 1", "known(1, 0) = 700", "known(2, 0) = 800", "known(3, 0) = 0", "known(3, 1) = 0",
                "ends() = 1", "oneOf(2, 0) = 10", "oneOf(2, 4) = 1", "known(2, 0) = 0", "oneOf(3, 0) = 10", "oneOf(1, 4) = 0", "ends() = 1",
                "oneOf(3, 0) = 10",
                // One GONE by a DRAW (seed 0 draws 0) grows no older and forgets nothing.
                "--", "\"book 1;one 8 keeps 0;knows 0 0 900\" = 3", "rule(0, 4, 0)", "seed(0)", "years(0, 1) = 900", "oneOf(0, 4) = 1",
                "ends() = 0", "ends() = 0", "oneOf(0, 0) = 8", "known(0, 0) = 900");
    }

    private void value() {
        e.terms("VALUE: of all BOOKS WORTH times the greatest KNOWN of those who are there, together.",
                "value() = 0", "\"book 99;book 99;book 99;book 99;book 99;book 99;book 99;book 99\" = 8", "value() = 0",
                "one(0, 10, 10, 10) = 0", "one(9, 10, 10, 10) = 1", "value() = 0", "read(0, 0) = 1000", "value() = 99000",
                "read(0, 1) = 1000", "read(0, 2) = 1000", "read(0, 3) = 1000", "read(0, 4) = 1000", "read(0, 5) = 1000",
                "read(0, 6) = 1000", "read(1, 7) = 1000", "value() = 792000", "alter(0, 7, 999)", "value() = 792000", "ends() = 1",
                "value() = 791901",
                "--", "\"book 3;one 9 keeps 10;one 0 keeps 10 tells 0;knows 0 0 900;knows 1 0 1\" = 5", "rule(0, 2, 0)", "seed(0)",
                "value() = 2700", "years(0, 1) = 2700", "known(0, 0) = 900", "oneOf(0, 4) = 1", "value() = 3");
    }
}
