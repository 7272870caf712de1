/** The edges that promises 1 to 8 name. */
final class ShelfEdges {
    private final Edges e;

    private ShelfEdges(Edges e) {
        this.e = e;
    }

    static void all(Edges e) {
        ShelfEdges t = new ShelfEdges(e);
        t.newObject();
        t.row();
        t.set();
        t.copy();
        t.copyRefusals();
        t.element();
        t.holds();
        t.rule();
        t.says();
        t.saysRefusals();
    }

    private void newObject() {
        e.promise(1, "No BOOKS, no PEOPLE;", "status(0) = 0", "status(1) = 0", "status(2) = 0", "status(3) = 0", "bookOf(0, 0) ! BAD",
                "oneOf(0, 0) ! BAD", "value() = 0", "next() = NONE", "lost(1) = 0", "bear(1) = 0", "ends() = 0");
        e.promise(1, "SHELVES hold NOTHING;", "status(8) = 0", "holds(0) = NONE", "holds(1) = NONE", "holds(2) = NONE", "holds(3) = NONE",
                "holds(4) = NONE", "holds(5) = NONE", "holds(6) = NONE", "holds(7) = NONE");
        e.promise(1, "THE TAPE is empty.", "status(6) = 0", "wipe() = 0", "town() ! 0", "feed(32, 1) = 1");
    }

    private void row() {
        e.promise(2, "SHELF s holds a new ROW: 1.", "row(0, 3, 2) = 1", "set(0, 0, 7)", "set(0, 1, 8)", "row(0, 3, 3) = 1",
                "element(0, 0) = 0", "element(0, 1) = 0", "element(0, 2) = 0", "rule(1, 1, 9)", "row(1, 0, 0) = 1", "holds(1) = 0",
                "status(8) = 2");
        e.promise(2, "BAD.", "row(-1, 0, 0) ! BAD", "row(0, 0, 0) = 1", "row(1, 0, 1) = 1", "row(6, 3, 39) = 1", "row(7, 4, 40) = 1",
                "row(8, 4, 40) ! BAD", "row(7, 5, 40) ! BAD", "row(7, -1, 40) ! BAD", "row(7, 4, 41) ! BAD", "row(7, 4, -1) ! BAD",
                "row(7, 4, MIN) ! BAD", "row(7, 4, MAX) ! BAD", "holds(7) = 4", "status(8) = 4");
    }

    private void set() {
        e.promise(3, "Element i of the ROW in SHELF s becomes v: 1.", "row(0, 3, 3)", "set(0, 0, 5) = 1", "set(0, 2, LMAX) = 1",
                "element(0, 0) = 5", "element(0, 1) = 0", "element(0, 2) = LMAX", "set(0, 0, 0) = 1", "element(0, 0) = 0");
        e.promise(3, "BAD SHELF;", "row(0, 3, 3)", "row(7, 3, 3)", "set(-1, 0, 1) ! BAD", "set(0, 0, 1) = 1", "set(7, 0, 1) = 1",
                "set(8, 0, 1) ! BAD", "set(MIN, 9, 1) ! BAD", "set(MAX, 9, 1) ! BAD");
        e.promise(3, "OTHER;", "rule(0, 1, 0)", "set(0, 0, 1) ! OTHER", "set(0, -1, 1) ! OTHER", "set(0, 40, 1) ! OTHER");
        e.promise(3, "NOTHING;", "set(0, 0, 1) ! NOTHING", "set(7, -1, 1) ! NOTHING", "set(7, 40, 1) ! NOTHING");
        e.promise(3, "BAD i.", "row(0, 3, 3)", "set(0, -1, 1) ! BAD", "set(0, 2, 1) = 1", "set(0, 3, 1) ! BAD", "set(0, MIN, 1) ! BAD",
                "set(0, MAX, 1) ! BAD", "row(1, 3, 0)", "set(1, 0, 1) ! BAD", "row(2, 3, 40)", "set(2, 39, 1) = 1", "set(2, 40, 1) ! BAD");
        e.limits(0, 6, "set(0, %d, 1)", "row(0, 3, 7)");
    }

    private void copy() {
        e.promise(4, "n elements of the ROW in SHELF p from place i on come to places j on of that in q (as they were): n.",
                "row(0, 2, 4)", "set(0, 0, 10)", "set(0, 1, 11)", "set(0, 2, 12)", "set(0, 3, 13)", "row(1, 2, 3)",
                "copy(0, 1, 1, 0, 3) = 3", "element(1, 0) = 11", "element(1, 1) = 12", "element(1, 2) = 13", "copy(0, 1, 0, 2, 1) = 1",
                "element(1, 2) = 10", "element(1, 1) = 12", "copy(0, 1, 0, 0, 0) = 0", "element(1, 0) = 11",
                // Over itself, up and down.
                "--", "row(0, 2, 4)", "set(0, 0, 10)", "set(0, 1, 11)", "set(0, 2, 12)", "set(0, 3, 13)", "copy(0, 0, 0, 1, 3) = 3",
                "element(0, 0) = 10", "element(0, 1) = 10", "element(0, 2) = 11", "element(0, 3) = 12",
                "--", "row(0, 2, 4)", "set(0, 0, 10)", "set(0, 1, 11)", "set(0, 2, 12)", "set(0, 3, 13)", "copy(0, 0, 1, 0, 3) = 3",
                "element(0, 0) = 11", "element(0, 1) = 12", "element(0, 2) = 13", "element(0, 3) = 13",
                "--", "row(0, 2, 2)", "set(0, 0, 10)", "copy(0, 0, 0, 0, 2) = 2", "element(0, 0) = 10",
                "--", "row(0, 3, 40)", "row(7, 3, 40)", "set(0, 39, LMIN)", "set(0, 0, 3)", "copy(0, 7, 0, 0, 40) = 40",
                "element(7, 39) = LMIN", "element(7, 0) = 3", "copy(7, 0, 39, 0, 1) = 1", "element(0, 0) = LMIN");
    }

    private void copyRefusals() {
        e.promise(4, "BAD SHELVES;", "row(0, 0, 1)", "row(7, 0, 1)", "rule(1, 1, 0)", "copy(0, 7, 0, 0, 1) = 1", "copy(7, 0, 0, 0, 1) = 1",
                "copy(-1, 0, 0, 0, 1) ! BAD", "copy(8, 0, 0, 0, 1) ! BAD", "copy(0, -1, 0, 0, 1) ! BAD", "copy(0, 8, 0, 0, 1) ! BAD",
                "copy(1, 8, 0, 0, 1) ! BAD", "copy(8, 1, 0, 0, 1) ! BAD", "copy(2, 8, 0, 0, 1) ! BAD", "copy(-1, 2, 0, 0, 1) ! BAD");
        e.promise(4, "OTHER (also ROWS of two SORTS, if both hold something);", "row(0, 0, 1)", "row(1, 1, 1)", "row(2, 4, 1)",
                "rule(3, 1, 0)", "copy(0, 3, 0, 0, 1) ! OTHER", "copy(3, 0, 0, 0, 1) ! OTHER", "copy(3, 3, 0, 0, 1) ! OTHER",
                "copy(3, 7, 0, 0, 1) ! OTHER", "copy(7, 3, 0, 0, 1) ! OTHER", "copy(0, 1, 0, 0, 1) ! OTHER", "copy(1, 2, 0, 0, 1) ! OTHER",
                "copy(0, 1, -1, 9, 99) ! OTHER", "copy(0, 1, 0, 0, 0) ! OTHER", "copy(0, 7, 0, 0, 1) ! NOTHING",
                "copy(7, 2, 0, 0, 1) ! NOTHING", "copy(0, 0, 0, 0, 1) = 1", "rule(4, 1, 0)", "copy(3, 4, 0, 0, 0) ! OTHER");
        e.promise(4, "NOTHING;", "row(0, 0, 1)", "copy(0, 1, 0, 0, 1) ! NOTHING", "copy(1, 0, 0, 0, 1) ! NOTHING",
                "copy(1, 2, 0, 0, 1) ! NOTHING", "copy(1, 1, 0, 0, 0) ! NOTHING", "copy(0, 1, -1, 0, 1) ! NOTHING",
                "copy(1, 0, 0, 9, 99) ! NOTHING");
        e.promise(4, "BAD the others.", "row(0, 0, 3)", "row(1, 0, 2)", "copy(0, 1, 0, 0, 2) = 2", "copy(0, 1, 1, 0, 2) = 2",
                "copy(0, 1, 2, 0, 2) ! BAD", "copy(0, 1, 0, 1, 1) = 1", "copy(0, 1, 0, 1, 2) ! BAD", "copy(0, 1, 0, 0, 3) ! BAD",
                "copy(1, 0, 0, 0, 3) ! BAD", "copy(0, 1, -1, 0, 1) ! BAD", "copy(0, 1, 0, -1, 1) ! BAD", "copy(0, 1, 0, 0, -1) ! BAD",
                "copy(0, 1, 1, 1, -1) ! BAD", "copy(0, 1, 3, 2, 0) = 0", "copy(0, 1, 4, 0, 0) ! BAD", "copy(0, 1, 0, 3, 0) ! BAD",
                "copy(0, 1, 3, 0, 1) ! BAD", "copy(0, 1, 0, 2, 1) ! BAD", "copy(0, 1, MAX, 0, 1) ! BAD", "copy(0, 1, 0, MAX, 1) ! BAD",
                "copy(0, 1, MAX, MAX, MAX) ! BAD", "copy(0, 1, 1, 1, MAX) ! BAD", "copy(0, 1, MIN, MIN, MIN) ! BAD",
                "copy(0, 1, 0, 0, MIN) ! BAD", "copy(0, 1, -1, -1, 0) ! BAD");
    }

    private void element() {
        e.promise(5, "Element i of the ROW; 0: none, no ROW (nothing is refused).", "row(0, 3, 2)", "set(0, 0, 5)", "set(0, 1, -6)",
                "element(0, -1) = 0", "element(0, 0) = 5", "element(0, 1) = -6", "element(0, 2) = 0", "element(0, MIN) = 0",
                "element(0, MAX) = 0", "element(-1, 0) = 0", "element(8, 0) = 0", "element(7, 0) = 0", "rule(1, 1, 9)", "element(1, 0) = 0",
                "status(12) = 0", "status(13) = 0", "status(14) = 0", "row(0, 3, 1)", "element(0, 1) = 0", "row(0, 3, 0)",
                "element(0, 0) = 0", "element(MIN, 0) = 0", "element(MAX, 0) = 0", "status(12) = 0");
    }

    private void holds() {
        e.promise(6, "What SHELF s holds: NONE NOTHING, no SHELF;", "holds(0) = NONE", "holds(7) = NONE", "holds(8) = NONE",
                "holds(-1) = NONE", "holds(MIN) = NONE", "holds(MAX) = NONE", "status(12) = 0", "status(14) = 0");
        e.promise(6, "0 to 4 a ROW by its SORT;", "row(0, 0, 0)", "holds(0) = 0", "row(0, 1, 0)", "holds(0) = 1", "row(0, 2, 0)",
                "holds(0) = 2", "row(0, 3, 0)", "holds(0) = 3", "row(7, 4, 40)", "holds(7) = 4", "holds(6) = NONE");
        e.promise(6, "10 and the KIND of a RULE.", "rule(0, 1, 99)", "holds(0) = 11", "rule(0, 2, 0)", "holds(0) = 12", "rule(0, 3, 0)",
                "holds(0) = 13", "rule(0, 4, 0)", "holds(0) = 14", "rule(0, 5, 0)", "holds(0) = 15", "rule(7, 6, 0)", "holds(7) = 16");
    }

    private void rule() {
        e.promise(7, "SHELF s holds a RULE of a KIND (1 to 6) by a: 1.", "rule(0, 1, 7) = 1", "holds(0) = 11", "says(0, 0) = 7",
                "rule(7, 6, 8) = 1", "holds(7) = 16", "says(7, 0) = 8", "row(0, 3, 3)", "rule(0, 2, 1) = 1", "holds(0) = 12",
                "element(0, 0) = 0", "rule(1, 0, 1) ! BAD", "rule(1, 7, 1) ! BAD", "holds(1) = NONE");
        e.limits(1, 6, "rule(0, %d, 5)");
        e.promise(7, "BAD.", "rule(-1, 1, 0) ! BAD", "rule(8, 1, 0) ! BAD", "rule(0, 0, 0) ! BAD", "rule(0, 7, 0) ! BAD",
                "rule(0, 1, -1) ! BAD", "rule(0, 1, 100) ! BAD", "status(8) = 0", "row(0, 0, 1)", "rule(0, 1, 100) ! BAD", "holds(0) = 0");
    }

    private void says() {
        String town = "\"book 5;book 7;book 7;one 3 reads 10 tells 10;one 2 tells 10;knows 0 0 100;white 0\" = 7";
        e.promise(8, "What the RULE in SHELF s, taken for one of a KIND, says: RULE its a;", "rule(0, 1, 0)", "says(0, 0) = 0",
                "rule(1, 2, 1)", "says(1, 0) = 1", "rule(2, 3, 99)", "says(2, 0) = 99", "rule(3, 4, 3)", "says(3, 0) = 3", "rule(4, 5, 4)",
                "says(4, 0) = 4", "rule(7, 6, 5)", "says(7, 0) = 5");
        e.promise(8, "NOW, FEW, LOUD how many BOOKS it would have read this YEAR;", town, "rule(0, 1, 1)", "rule(1, 2, 1)", "rule(2, 3, 1)",
                "says(0, 1) = 2", "says(1, 1) = 1", "says(1, 2) = 1", "says(2, 1) = 2", "says(2, 3) = 2", "bookOf(1, 3) = 0",
                "rule(1, 2, 2)", "says(1, 2) = 2", "rule(1, 2, 3)", "says(1, 2) = 2", "rule(1, 2, 0)", "says(1, 1) = 0",
                "\"white 1;white 2\" = 2", "says(0, 1) = 0", "says(2, 3) = 0");
        e.promise(8, "CHAIN, TWICE, SAGE VALUE behind what it says of this YEAR.", town, "rule(0, 4, 1)", "rule(1, 5, 1)", "rule(2, 6, 1)",
                "says(0, 4) = 500", "says(1, 4) = 500", "says(1, 5) = 500", "says(2, 4) = 7500", "says(2, 6) = 7500", "known(1, 0) = 0",
                "status(1) = 1", "value() = 500",
                "--", "rule(0, 4, 0)", "rule(1, 6, 0)", "says(0, 4) = 0", "says(1, 6) = 0");
    }

    private void saysRefusals() {
        e.promise(8, "BAD SHELF, KIND;", "rule(0, 1, 0)", "rule(7, 1, 0)", "row(1, 0, 0)", "says(-1, 0) ! BAD", "says(0, 0) = 0",
                "says(7, 0) = 0", "says(8, 0) ! BAD", "says(0, -1) ! BAD", "says(0, 7) ! BAD", "says(1, 7) ! BAD", "says(1, -1) ! BAD",
                "says(2, 7) ! BAD", "says(2, -1) ! BAD", "says(MIN, MIN) ! BAD", "says(0, MAX) ! BAD");
        String[][] taken = {{"0", "1"}, {"0", "1", "2"}, {"0", "1", "3"}, {"0", "4"}, {"0", "4", "5"}, {"0", "4", "6"}};
        e.promise(8, "OTHER (also if it is of no such KIND nor of one under it);", "row(0, 0, 1)", "says(0, 0) ! OTHER",
                "says(0, 6) ! OTHER");
        for (int kind = 1; kind <= 6; kind++) {
            for (int as = 0; as <= 6; as++) {
                boolean fine = java.util.List.of(taken[kind - 1]).contains(String.valueOf(as));
                e.promise(8, "OTHER (also if it is of no such KIND nor of one under it);", "rule(5, " + kind + ", 0)",
                "says(5, " + as + ") " + (fine ? "= 0" : "! OTHER"));
            }
        }
        e.promise(8, "NOTHING.", "says(0, 0) ! NOTHING", "says(7, 6) ! NOTHING", "says(3, 1) ! NOTHING");
    }
}
