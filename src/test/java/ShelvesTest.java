/** Promises 1 to 8: a new object, rows and rules on the shelves. */
public final class ShelvesTest {
    private static final Check C = new Check();

    private static void promise1New() {
        EachBookOnce x = new EachBookOnce();
        C.due("NONE", EachBookOnce.NONE, -1);
        for (int what = 0; what <= 16; what++) {
            int due = what == 7 ? 1 : what >= 9 && what <= 11 ? -1 : 0;
            C.due("status(" + what + ") of a new one", x.status(what), due);
        }
        for (int s = 0; s < 8; s++) {
            C.due("holds(" + s + ") of a new one", x.holds(s), -1);
        }
        C.due("value() of a new one", x.value(), 0);
        C.due("wipe() of a new one", x.wipe(), 0);
    }

    private static void promise2Row() {
        EachBookOnce x = new EachBookOnce();
        C.due("row(0, 0, 0)", x.row(0, 0, 0), 1);
        C.due("row(7, 4, 40)", x.row(7, 4, 40), 1);
        C.due("holds(7)", x.holds(7), 4);
        C.due("status(8)", x.status(8), 2);
        Check.row(x, 3, 3, 9, 8, 7);
        C.due("row(3, 3, 3) again", x.row(3, 3, 3), 1);
        C.due("element(3, 0) of the new row", x.element(3, 0), 0);
        C.due("element(3, 2) of the new row", x.element(3, 2), 0);
        x.rule(3, 4, 9);
        C.due("row(3, 1, 2) over a rule", x.row(3, 1, 2), 1);
        C.due("holds(3)", x.holds(3), 1);
        C.refused(x, Check.BAD, "row(-1, 0, 1)", () -> x.row(-1, 0, 1));
        C.refused(x, Check.BAD, "row(8, 0, 1)", () -> x.row(8, 0, 1));
        C.refused(x, Check.BAD, "row(3, -1, 1)", () -> x.row(3, -1, 1));
        C.refused(x, Check.BAD, "row(3, 5, 1)", () -> x.row(3, 5, 1));
        C.refused(x, Check.BAD, "row(3, 0, -1)", () -> x.row(3, 0, -1));
        C.refused(x, Check.BAD, "row(3, 0, 41)", () -> x.row(3, 0, 41));
    }

    private static void promise3Set() {
        EachBookOnce x = new EachBookOnce();
        long v = 0x123456789ABCDEF0L;
        long[] due = {(byte) 0xF0, (short) 0xDEF0, 0x9ABCDEF0, v, 1};
        for (int sort = 0; sort <= 4; sort++) {
            x.row(sort, sort, 2);
            C.due("set in sort " + sort, x.set(sort, 1, v), 1);
            C.due("element in sort " + sort, x.element(sort, 1), due[sort]);
            C.due("the other element in sort " + sort, x.element(sort, 0), 0);
        }
        x.set(4, 1, 0x100000000L);
        C.due("a boolean of high bits alone", x.element(4, 1), 1);
        x.set(4, 1, 0);
        C.due("a boolean again not so", x.element(4, 1), 0);
        x.set(0, 0, 128);
        C.due("byte 128", x.element(0, 0), -128);
        x.set(1, 0, -32769);
        C.due("short -32769", x.element(1, 0), 32767);
        x.rule(6, 1, 0);
        C.refused(x, Check.BAD, "set(-1, 0, 1)", () -> x.set(-1, 0, 1));
        C.refused(x, Check.BAD, "set(8, 0, 1)", () -> x.set(8, 0, 1));
        C.refused(x, Check.OTHER, "set(6, -1, 1)", () -> x.set(6, -1, 1));
        C.refused(x, Check.NOTHING, "set(7, -1, 1)", () -> x.set(7, -1, 1));
        C.refused(x, Check.BAD, "set(0, -1, 1)", () -> x.set(0, -1, 1));
        C.refused(x, Check.BAD, "set(0, 2, 1)", () -> x.set(0, 2, 1));
    }

    private static void promise4Copy() {
        EachBookOnce x = new EachBookOnce();
        Check.row(x, 0, 2, 1, 2, 3, 4, 5);
        Check.row(x, 1, 2, 9, 9, 9);
        C.due("copy(0, 1, 1, 0, 3)", x.copy(0, 1, 1, 0, 3), 3);
        C.due("element(1, 0)", x.element(1, 0), 2);
        C.due("element(1, 2)", x.element(1, 2), 4);
        C.due("copy(0, 0, 0, 1, 4) as they were", x.copy(0, 0, 0, 1, 4), 4);
        for (int i = 0; i < 5; i++) {
            C.due("element(0, " + i + ") moved up", x.element(0, i), Math.max(1, i));
        }
        C.due("copy(0, 0, 1, 0, 4) as they were", x.copy(0, 0, 1, 0, 4), 4);
        for (int i = 0; i < 5; i++) {
            C.due("element(0, " + i + ") moved down", x.element(0, i), Math.min(4, i + 1));
        }
        Check.row(x, 5, 2, 70, 71, 72);
        C.due("copy(5, 0, 1, 3, 2)", x.copy(5, 0, 1, 3, 2), 2);
        C.due("element(0, 3)", x.element(0, 3), 71);
        C.due("element(0, 4)", x.element(0, 4), 72);
        C.due("copy of none at the ends", x.copy(0, 1, 5, 3, 0), 0);
        x.row(2, 3, 5);
        x.rule(3, 2, 1);
        C.refused(x, Check.BAD, "copy(-1, 3, 0, 0, 1)", () -> x.copy(-1, 3, 0, 0, 1));
        C.refused(x, Check.BAD, "copy(3, 8, 0, 0, 1)", () -> x.copy(3, 8, 0, 0, 1));
        C.refused(x, Check.OTHER, "copy(3, 4, 0, 0, 1)", () -> x.copy(3, 4, 0, 0, 1));
        C.refused(x, Check.OTHER, "copy(4, 3, 0, 0, 1)", () -> x.copy(4, 3, 0, 0, 1));
        C.refused(x, Check.OTHER, "copy(0, 2, 0, 0, -1)", () -> x.copy(0, 2, 0, 0, -1));
        C.refused(x, Check.NOTHING, "copy(0, 4, 0, 0, -1)", () -> x.copy(0, 4, 0, 0, -1));
        C.refused(x, Check.NOTHING, "copy(4, 2, 0, 0, -1)", () -> x.copy(4, 2, 0, 0, -1));
        C.refused(x, Check.NOTHING, "copy(4, 5, 0, 0, 1)", () -> x.copy(4, 5, 0, 0, 1));
        C.refused(x, Check.BAD, "copy(0, 1, -1, 0, 1)", () -> x.copy(0, 1, -1, 0, 1));
        C.refused(x, Check.BAD, "copy(0, 1, 0, -1, 1)", () -> x.copy(0, 1, 0, -1, 1));
        C.refused(x, Check.BAD, "copy(0, 1, 0, 0, -1)", () -> x.copy(0, 1, 0, 0, -1));
        C.refused(x, Check.BAD, "copy(0, 1, 3, 0, 3)", () -> x.copy(0, 1, 3, 0, 3));
        C.refused(x, Check.BAD, "copy(0, 1, 0, 1, 3)", () -> x.copy(0, 1, 0, 1, 3));
        C.refused(x, Check.BAD, "copy over all ints", () -> x.copy(0, 1, Integer.MAX_VALUE, 0, Integer.MAX_VALUE));
    }

    private static void promise5Element() {
        EachBookOnce x = new EachBookOnce();
        Check.row(x, 0, 3, 5, -6);
        x.rule(1, 1, 7);
        C.due("element(0, 1)", x.element(0, 1), -6);
        C.due("element(0, 2)", x.element(0, 2), 0);
        C.due("element(0, -1)", x.element(0, -1), 0);
        C.due("element(1, 0) of a rule", x.element(1, 0), 0);
        C.due("element(2, 0) of nothing", x.element(2, 0), 0);
        C.due("element(8, 0)", x.element(8, 0), 0);
        C.due("element(-1, 0)", x.element(-1, 0), 0);
        C.due("refusals by element()", x.status(12) + x.status(13) + x.status(14), 0);
        Check.row(x, 0, 3, 5);
        C.due("element(0, 1) of the shorter row", x.element(0, 1), 0);
    }

    private static void promise6Holds() {
        EachBookOnce x = new EachBookOnce();
        for (int i = 0; i <= 4; i++) {
            x.row(i, i, 1);
            C.due("holds(" + i + ")", x.holds(i), i);
        }
        for (int kind = 1; kind <= 6; kind++) {
            x.rule(6, kind, 0);
            C.due("holds(6) of kind " + kind, x.holds(6), 10 + kind);
        }
        C.due("holds(7)", x.holds(7), -1);
        C.due("holds(8)", x.holds(8), -1);
        C.due("holds(-1)", x.holds(-1), -1);
        C.due("refusals by holds()", x.status(12), 0);
    }

    private static void promise7Rule() {
        EachBookOnce x = new EachBookOnce();
        C.due("rule(0, 1, 0)", x.rule(0, 1, 0), 1);
        C.due("rule(7, 6, 99)", x.rule(7, 6, 99), 1);
        C.due("says(7, 0)", x.says(7, 0), 99);
        x.row(1, 0, 3);
        C.due("rule(1, 2, 3) over a row", x.rule(1, 2, 3), 1);
        C.due("holds(1)", x.holds(1), 12);
        C.due("status(8)", x.status(8), 3);
        C.refused(x, Check.BAD, "rule(8, 1, 0)", () -> x.rule(8, 1, 0));
        C.refused(x, Check.BAD, "rule(-1, 1, 0)", () -> x.rule(-1, 1, 0));
        C.refused(x, Check.BAD, "rule(0, 0, 0)", () -> x.rule(0, 0, 0));
        C.refused(x, Check.BAD, "rule(0, 7, 0)", () -> x.rule(0, 7, 0));
        C.refused(x, Check.BAD, "rule(0, 1, -1)", () -> x.rule(0, 1, -1));
        C.refused(x, Check.BAD, "rule(0, 1, 100)", () -> x.rule(0, 1, 100));
    }

    private static void promise8Says() {
        EachBookOnce x = Check.of("book 5;book 7;book 7;one 3 reads 10 tells 10;one 2 tells 10;knows 0 0 100;white 0");
        int[] kinds = {1, 2, 3, 4, 5, 6};
        for (int kind : kinds) {
            x.rule(kind, kind, 1);
            C.due("says its a, kind " + kind, x.says(kind, 0), 1);
        }
        String before = Check.picture(x);
        C.due("NOW reads", x.says(1, 1), 2);
        C.due("FEW taken for NOW", x.says(2, 1), 1);
        C.due("FEW", x.says(2, 2), 1);
        C.due("LOUD taken for NOW", x.says(3, 1), 2);
        C.due("LOUD", x.says(3, 3), 2);
        C.due("CHAIN", x.says(4, 4), 500);
        C.due("TWICE taken for CHAIN", x.says(5, 4), 500);
        C.due("TWICE", x.says(5, 5), 500);
        C.due("SAGE reads one book", x.says(6, 6), 7500);
        C.due("SAGE taken for CHAIN", x.says(6, 4), 7500);
        C.same("the town behind says()", Check.picture(x), before);
        x.rule(2, 2, 99);
        C.due("FEW with more than there are", x.says(2, 2), 2);
        x.rule(2, 2, 0);
        C.due("FEW with none", x.says(2, 2), 0);
        x.row(7, 2, 3);
        C.refused(x, Check.BAD, "says(-1, 0)", () -> x.says(-1, 0));
        C.refused(x, Check.BAD, "says(8, 0)", () -> x.says(8, 0));
        C.refused(x, Check.BAD, "says(7, -1)", () -> x.says(7, -1));
        C.refused(x, Check.BAD, "says(0, 7)", () -> x.says(0, 7));
        C.refused(x, Check.OTHER, "says(7, 0) of a row", () -> x.says(7, 0));
        C.refused(x, Check.NOTHING, "says(0, 0)", () -> x.says(0, 0));
        boolean[][] isUnder = {
            {true, true, false, false, false, false, false}, {true, true, true, false, false, false, false},
            {true, true, false, true, false, false, false}, {true, false, false, false, true, false, false},
            {true, false, false, false, true, true, false}, {true, false, false, false, true, false, true}};
        for (int kind = 1; kind <= 6; kind++) {
            for (int as = 0; as <= 6; as++) {
                final int s = kind;
                final int taken = as;
                if (isUnder[kind - 1][as]) {
                    C.due("says(" + s + ", " + taken + ") is not refused", x.says(s, taken) >= 0 ? 1 : 0, 1);
                } else {
                    C.refused(x, Check.OTHER, "says(" + s + ", " + taken + ")", () -> x.says(s, taken));
                }
            }
        }
        EachBookOnce empty = Check.of("book 5");
        empty.rule(0, 1, 0);
        empty.rule(1, 6, 0);
        C.due("NOW with nobody there", empty.says(0, 1), 0);
        C.due("SAGE with nobody there", empty.says(1, 6), 0);
    }

    public static void main(String[] args) {
        promise1New();
        promise2Row();
        promise3Set();
        promise4Copy();
        promise5Element();
        promise6Holds();
        promise7Rule();
        promise8Says();
        C.end();
    }
}
