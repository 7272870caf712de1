/** The edges that promises 35 to 39 name. */
final class KnowEdges {
    private final Edges e;

    private KnowEdges(Edges e) {
        this.e = e;
    }

    static void all(Edges e) {
        KnowEdges t = new KnowEdges(e);
        t.lost();
        t.bear();
        t.youngest();
        t.teach();
        t.needs();
    }

    private void lost() {
        String town = "\"book 5;book 9;book 1;one 1 keeps 10;one 9;knows 0 0 500;knows 1 1 999;knows 1 0 400\" = 8";
        e.promise(35, "BOOKS (bits) of which nobody who is there knows v (1 to 1,000) at least.", town, "lost(1) = 4", "lost(2) = 4",
                "lost(499) = 4", "lost(500) = 4", "lost(501) = 5", "lost(999) = 5", "lost(1000) = 7", "alter(1, 1, 1000)", "lost(1000) = 5",
                "alter(0, 2, 1)", "lost(1) = 0", "lost(2) = 4", "ends() = 1", "lost(1) = 2", "lost(500) = 6", "lost(501) = 7",
                "--", "\"book 1;book 1;book 1;book 1;book 1;book 1;book 1;book 1\" = 8", "lost(1) = 255", "lost(1000) = 255",
                "--", "lost(1) = 0",
                // GONE by a DRAW they are not there, though they know it.
                "--", "\"book 5;one 9;knows 0 0 500\" = 3", "rule(0, 4, 0)", "seed(0)", "lost(500) = 0", "years(0, 1)", "known(0, 0) = 500",
                "lost(1) = 1");
        e.limits(1, 1000, "lost(%d)", town);
        e.promise(35, "BAD.", town, "lost(0) ! BAD", "lost(-1) ! BAD", "lost(1001) ! BAD", "lost(MIN) ! BAD", "lost(MAX) ! BAD",
                "lost(1000) = 7",
                "--", "lost(0) ! BAD");
    }

    private void bear() {
        String words = "The least number of PEOPLE (bits, of several such sets the least) who together know v (1 to 1,000) at least of each BOOK that somebody who is there knows so much of.";
        e.promise(36, words,
                "\"book 1;book 1;book 1;one 1;one 1;one 1;one 1;knows 0 0 500;knows 0 1 300;knows 1 2 500;knows 2 1 500;knows 2 2 500;knows 3 0 500\" = 13",
                "bear(501) = 0", "bear(500) = 5", "bear(499) = 5", "bear(301) = 5", "bear(300) = 3", "bear(1) = 3", "alter(3, 1, 300)",
                "alter(3, 2, 299)", "bear(300) = 3", "alter(3, 2, 300)", "bear(300) = 8", "bear(301) = 5", "alter(2, 0, 300)",
                "bear(300) = 4",
                // All are needed; none is; one of two who know the same.
                "--", "\"book 1;book 1;book 1;one 1;one 1;one 1;knows 0 0 5;knows 1 1 5;knows 2 2 5\" = 9", "bear(5) = 7", "bear(4) = 7",
                "bear(6) = 0",
                "--", "\"book 1;one 1;one 1;knows 0 0 5;knows 1 0 5\" = 5", "bear(5) = 1", "alter(1, 0, 6)", "bear(5) = 1", "bear(6) = 2",
                "--", "bear(1) = 0", "book(1, 0)", "bear(1) = 0", "one(1, 1, 1, 1)", "bear(1) = 0", "alter(0, 0, 1)", "bear(1) = 1",
                "bear(2) = 0", "alter(0, 0, 1000)", "bear(1000) = 1",
                // All eight, each of one book, are the greatest set there is; then seven of them.
                "--", "\"book 1;book 1;book 1;book 1;book 1;book 1;book 1;book 1\" = 8",
                "\"one 1;one 1;one 1;one 1;one 1;one 1;one 1;one 1\" = 8",
                "\"knows 0 0 5;knows 1 1 5;knows 2 2 5;knows 3 3 5;knows 4 4 5;knows 5 5 5;knows 6 6 5;knows 7 7 5\" = 8", "bear(5) = 255",
                "alter(7, 6, 5)", "bear(5) = 191", "alter(7, 7, 4)", "bear(5) = 127", "alter(6, 6, 4)", "bear(5) = 191", "alter(7, 6, 4)",
                "bear(5) = 63");
        // Those GONE are no help, nor is what only they know wanted.
        e.promise(36, words, "\"book 1;book 1;one 9 keeps 10;one 0 keeps 10;one 0 keeps 10;knows 0 0 500;knows 0 1 500;knows 1 0 500\" = 8",
                "bear(500) = 1", "ends() = 1", "bear(500) = 2",
                "--",
                "\"book 1;book 1;one 9 keeps 10;one 0 keeps 10;one 0 keeps 10;knows 0 0 500;knows 0 1 500;knows 1 0 500;knows 2 0 501\" = 9",
                "rule(0, 2, 0)", "seed(0)", "bear(500) = 1", "bear(501) = 4", "years(0, 1)", "known(0, 1) = 500", "bear(500) = 2",
                "--",
                "\"book 1;book 1;one 9 keeps 10;one 0 keeps 10;one 0 keeps 10;knows 0 0 500;knows 0 1 500;knows 1 0 500;knows 2 1 500\" = 9",
                "rule(0, 2, 0)", "seed(0)", "bear(500) = 1", "years(0, 1)", "known(0, 0) = 500", "known(0, 1) = 500", "bear(500) = 6");
        e.limits(1, 1000, "bear(%d)", "\"book 1;one 1\" = 2");
        e.promise(36, "BAD.", "bear(0) ! BAD", "bear(1001) ! BAD", "bear(-1) ! BAD", "bear(MIN) ! BAD", "bear(MAX) ! BAD",
                "bear(1000) = 0");
    }

    private void youngest() {
        e.promise(37, "The youngest other one (there; of several the first);", "\"one 4;one 3;one 9;one 3;one 5\" = 5", "youngest(0) = 1",
                "youngest(1) = 3", "youngest(3) = 1", "youngest(2) = 1", "youngest(4) = 1", "ends() = 1", "youngest(2) = 1",
                "youngest(0) = 1",
                "--", "\"one 9;one 0;one 4\" = 3", "youngest(0) = 1", "youngest(1) = 2", "youngest(2) = 1", "ends() = 1", "youngest(1) = 2",
                // One GONE by a DRAW, seed 0, though the youngest.
                "--", "\"one 1;one 2;one 3\" = 3", "rule(0, 4, 0)", "youngest(1) = 0", "seed(0)", "years(0, 1)", "oneOf(0, 4) = 1",
                "youngest(1) = 2", "youngest(2) = 1", "youngest(0) = 1");
        e.promise(37, "NONE: nobody.", "one(4, 1, 1, 1)", "youngest(0) = NONE", "one(9, 1, 1, 1)", "youngest(0) = 1", "ends() = 1",
                "youngest(0) = NONE", "youngest(1) = 0", "status(15) = 0", "status(12) = 0");
        e.promise(37, "BAD.", "youngest(0) ! BAD", "one(4, 1, 1, 1)", "one(4, 1, 1, 1)", "youngest(-1) ! BAD", "youngest(1) = 0",
                "youngest(2) ! BAD", "youngest(MIN) ! BAD", "youngest(MAX) ! BAD");
    }

    private void teach() {
        String town = "\"book 1;book 2;one 1 keeps 10 tells 8;one 9 keeps 10;one 2 keeps 10;one 2 keeps 10;knows 0 0 500;knows 1 0 99;knows 2 0 100;knows 3 0 100\" = 10";
        e.promise(38, "The other one (there) who would know most more by a TELLING of a BOOK by one, of several the first;", town,
                "teach(0, 0) = 1", "alter(1, 0, 100)", "teach(0, 0) = 1", "alter(1, 0, 101)", "teach(0, 0) = 2", "alter(3, 0, 99)",
                "teach(0, 0) = 3", "alter(1, 0, 0)", "teach(0, 0) = 1", "ends() = 1", "teach(0, 0) = 3", "known(3, 0) = 99",
                "alter(2, 0, 399)", "alter(3, 0, 400)", "teach(0, 0) = 2",
                // Not themselves, nor one GONE by a DRAW, whose KNOWN stays.
                "--", "\"book 1;one 9 keeps 10 tells 10;one 0 keeps 10 tells 10;knows 1 0 500\" = 4", "teach(1, 0) = 0", "rule(0, 2, 0)",
                "seed(0)", "years(0, 1)", "known(0, 0) = 0", "oneOf(0, 0) = 9", "teach(1, 0) = NONE");
        e.promise(38, "NONE: nobody would know more.", town, "teach(0, 1) = NONE", "alter(1, 0, 400)", "alter(2, 0, 400)",
                "alter(3, 0, 400)", "teach(0, 0) = NONE", "alter(3, 0, 399)", "teach(0, 0) = 3", "alter(3, 0, 401)", "teach(0, 0) = NONE",
                "status(15) = 0",
                "--", "\"book 1;one 1 tells 10;knows 0 0 500\" = 3", "teach(0, 0) = NONE");
        e.promise(38, "BAD;", town, "teach(-1, 0) ! BAD", "teach(4, 0) ! BAD", "teach(0, -1) ! BAD", "teach(0, 2) ! BAD",
                "teach(3, 1) = NONE", "ends() = 1", "teach(1, -1) ! BAD", "teach(1, 2) ! BAD", "teach(MIN, MAX) ! BAD");
        e.promise(38, "STUCK: GONE.", town, "teach(1, 0) = NONE", "ends() = 1", "teach(1, 0) ! STUCK", "teach(1, 1) ! STUCK",
                "--", "\"book 1;one 9 tells 10;one 0;knows 0 0 500\" = 4", "rule(0, 2, 0)", "teach(0, 0) = 1", "seed(0)", "years(0, 1)",
                "known(0, 0) = 500", "teach(0, 0) ! STUCK");
    }

    private void needs() {
        String town = "\"book 1;book 1;book 1;book 1;book 1;need 1 0;need 3 1;need 4 2;need 4 3\" = 9";
        e.promise(39, "BOOKS (bits) that a BOOK NEEDS, or they, and so on (other false);", town, "needs(0, false) = 0",
                "needs(1, false) = 1", "needs(2, false) = 0", "needs(3, false) = 3", "needs(4, false) = 15",
                "--", "book(1, 0)", "book(1, 1)", "book(1, 2)", "book(1, 4)", "book(1, 8)", "book(1, 16)", "book(1, 32)", "book(1, 64)",
                "needs(7, false) = 127", "needs(1, false) = 1", "needs(6, false) = 63", "needs(0, false) = 0",
                // Needs that are told later than the book count as well.
                "--", "\"book 1;book 1;book 1;need 2 1;need 1 0\" = 5", "needs(2, false) = 3", "needs(0, true) = 6");
        e.promise(39, "that NEED it so (true).", town, "needs(0, true) = 26", "needs(1, true) = 24", "needs(2, true) = 16",
                "needs(3, true) = 16", "needs(4, true) = 0",
                "--", "book(1, 0)", "book(1, 1)", "book(1, 2)", "book(1, 4)", "book(1, 8)", "book(1, 16)", "book(1, 32)", "book(1, 64)",
                "needs(0, true) = 254", "needs(6, true) = 128", "needs(7, true) = 0", "needs(3, true) = 240");
        e.promise(39, "BAD.", town, "needs(-1, false) ! BAD", "needs(-1, true) ! BAD", "needs(5, false) ! BAD", "needs(5, true) ! BAD",
                "needs(MIN, true) ! BAD", "needs(MAX, false) ! BAD",
                "--", "needs(0, true) ! BAD", "needs(0, false) ! BAD");
    }
}
