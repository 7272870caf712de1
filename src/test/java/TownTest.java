/** Promises 9 to 18: books, people, the tape, towns from texts, and what is told of them. */
public final class TownTest {
    private static final Check C = new Check();

    private static void promise9Book() {
        EachBookOnce x = new EachBookOnce();
        C.due("book(1, 0)", x.book(1, 0), 0);
        C.due("book(99, 1)", x.book(99, 1), 1);
        C.due("book(50, 3)", x.book(50, 3), 2);
        C.due("WORTH", x.bookOf(1, 0), 99);
        C.due("NEEDS", x.bookOf(2, 1), 3);
        C.due("GOOD", x.bookOf(2, 2), 1000);
        C.due("WHITE", x.bookOf(2, 3), 0);
        C.refused(x, Check.BAD, "book(0, 0)", () -> x.book(0, 0));
        C.refused(x, Check.BAD, "book(100, 0)", () -> x.book(100, 0));
        C.refused(x, Check.BAD, "book(5, 8): itself", () -> x.book(5, 8));
        C.refused(x, Check.BAD, "book(5, -1)", () -> x.book(5, -1));
        C.refused(x, Check.BAD, "book(5, MIN)", () -> x.book(5, Integer.MIN_VALUE));
        for (int i = 3; i < 8; i++) {
            C.due("book " + i, x.book(1, (1 << i) - 1), i);
        }
        C.refused(x, Check.BAD, "book(0, 0) when full", () -> x.book(0, 0));
        C.refused(x, Check.BAD, "book(1, 256) when full", () -> x.book(1, 256));
        C.refused(x, Check.FULL, "book(1, 255) when full", () -> x.book(1, 255));
    }

    private static void promise10One() {
        EachBookOnce x = new EachBookOnce();
        x.book(3, 0);
        C.due("one(0, 0, 0, 0)", x.one(0, 0, 0, 0), 0);
        C.due("one(9, 10, 8, 7)", x.one(9, 10, 8, 7), 1);
        int[] due = {9, 10, 8, 7, 0};
        for (int what = 0; what <= 4; what++) {
            C.due("oneOf(1, " + what + ")", x.oneOf(1, what), due[what]);
        }
        C.due("known(1, 0)", x.known(1, 0), 0);
        C.refused(x, Check.BAD, "one(-1, ..)", () -> x.one(-1, 0, 0, 0));
        C.refused(x, Check.BAD, "one(10, ..)", () -> x.one(10, 0, 0, 0));
        C.refused(x, Check.BAD, "one(.., -1, ..)", () -> x.one(0, -1, 0, 0));
        C.refused(x, Check.BAD, "one(.., 11, ..)", () -> x.one(0, 11, 0, 0));
        C.refused(x, Check.BAD, "one(.., -1, .)", () -> x.one(0, 0, -1, 0));
        C.refused(x, Check.BAD, "one(.., 11, .)", () -> x.one(0, 0, 11, 0));
        C.refused(x, Check.BAD, "one(.., -1)", () -> x.one(0, 0, 0, -1));
        C.refused(x, Check.BAD, "one(.., 11)", () -> x.one(0, 0, 0, 11));
        for (int i = 2; i < 8; i++) {
            C.due("one " + i, x.one(1, 1, 1, 1), i);
        }
        C.refused(x, Check.BAD, "one(10, ..) when full", () -> x.one(10, 0, 0, 0));
        C.refused(x, Check.FULL, "one(1, ..) when full", () -> x.one(1, 0, 0, 0));
    }

    private static void promise11Ones() {
        EachBookOnce x = new EachBookOnce();
        Check.row(x, 0, 3, 9, 10, 1, 2, 0, 3, 4, 5, 6, 7, 8, 11, 1, 1, 1, 1);
        C.due("ones(0, 0)", x.ones(0, 0), 0);
        C.due("ones(0, 4)", x.ones(0, 4), 1);
        int[] due = {9, 10, 1, 2};
        for (int what = 0; what < 4; what++) {
            C.due("oneOf(0, " + what + ")", x.oneOf(0, what), due[what]);
        }
        C.due("ones(0, 16) until one that can't be", x.ones(0, 16), 2);
        C.due("status(2)", x.status(2), 3);
        C.due("AGE of 2", x.oneOf(2, 0), 0);
        C.due("KEEPS of 2", x.oneOf(2, 2), 4);
        Check.row(x, 1, 3, 4294967296L, 1, 1, 1);
        C.due("ones() by a long that is no AGE", x.ones(1, 4), 0);
        x.row(2, 4, 40);
        C.due("ones(2, 40) until there is no room", x.ones(2, 40), 5);
        C.due("status(2)", x.status(2), 8);
        C.due("ones(2, 4) without room", x.ones(2, 4), 0);
        C.due("refusals by ones()", x.status(12) + x.status(16), 0);
        x.rule(3, 1, 0);
        C.refused(x, Check.BAD, "ones(8, 0)", () -> x.ones(8, 0));
        C.refused(x, Check.OTHER, "ones(3, -1)", () -> x.ones(3, -1));
        C.refused(x, Check.NOTHING, "ones(4, -1)", () -> x.ones(4, -1));
        C.refused(x, Check.BAD, "ones(0, -4)", () -> x.ones(0, -4));
        C.refused(x, Check.BAD, "ones(0, 3)", () -> x.ones(0, 3));
        C.refused(x, Check.BAD, "ones(0, 20)", () -> x.ones(0, 20));
        C.refused(x, Check.BAD, "ones(2, 44)", () -> x.ones(2, 44));
    }

    private static void promise12Feed() {
        EachBookOnce x = new EachBookOnce();
        C.due("feed 'one'", x.feed(0x7F6F6E65, 3), 3);
        C.due("feed ' 7'", x.feed(0x2037, 2), 5);
        C.due("town()", x.town(), 1);
        C.due("AGE", x.oneOf(0, 0), 7);
        C.due("feed(-1, 4)", x.feed(-1, 4), 4);
        C.due("status(6)", x.status(6), 4);
        C.refused(x, Check.BAD, "feed(1, 0)", () -> x.feed(1, 0));
        C.refused(x, Check.BAD, "feed(1, 5)", () -> x.feed(1, 5));
        C.refused(x, Check.BAD, "feed(1, -1)", () -> x.feed(1, -1));
        for (int i = 8; i <= 248; i += 4) {
            C.due("feed up to " + i, x.feed(0x20202020, 4), i);
        }
        C.refused(x, Check.FULL, "feed(32, 3) at 248", () -> x.feed(32, 3));
        C.due("feed(32, 1)", x.feed(32, 1), 249);
        C.refused(x, Check.FULL, "feed(32, 2) at 249", () -> x.feed(32, 2));
        C.due("feed(32, 1)", x.feed(32, 1), 250);
        C.refused(x, Check.BAD, "feed(32, 0) at 250", () -> x.feed(32, 0));
        C.refused(x, Check.FULL, "feed(32, 1) at 250", () -> x.feed(32, 1));
    }

    private static void promise13Wipe() {
        EachBookOnce x = new EachBookOnce();
        x.feed(0x7878, 2);
        C.due("wipe()", x.wipe(), 2);
        C.due("status(6)", x.status(6), 0);
        C.due("wipe() again", x.wipe(), 0);
        C.due("a town behind wipe()", Check.town(x, "one 3"), 1);
    }

    private static void fault(String text, int place) {
        EachBookOnce x = new EachBookOnce();
        Check.town(x, "book 4;one 2");
        Check.feed(x, text);
        String before = Check.picture(x).replace("status 1 0 1 0 0 0 " + text.length(), "status 1 0 1 0 0 0 0");
        C.due("town() of '" + text + "'", x.town(), -20 - place);
        C.same("what there is behind '" + text + "'", Check.picture(x), before);
        C.due("BAD behind '" + text + "'", x.status(12), 1);
    }

    private static void promise14Town() {
        EachBookOnce x = new EachBookOnce();
        C.due("a town of all", Check.town(x, "  book 7 ;book99good 0;book 1 good 999; need 2 0;need 2 1;need 2 1;"
                + "one 0;one 9 tells 1;one 3 reads 0 keeps 10;one 4reads010keeps 2tells 003;knows 1 2 999;knows 1 2 7;white 0;white 0  "), 14);
        C.due("status(0)", x.status(0), 3);
        C.due("status(1)", x.status(1), 1);
        C.due("status(2)", x.status(2), 4);
        C.due("status(6)", x.status(6), 0);
        C.due("NEEDS of 2", x.bookOf(2, 1), 3);
        C.due("GOOD of 0", x.bookOf(0, 2), 1000);
        C.due("GOOD of 1", x.bookOf(1, 2), 0);
        C.due("GOOD of 2", x.bookOf(2, 2), 999);
        C.due("WHITE of 0", x.bookOf(0, 3), 1);
        C.due("KNOWN", x.known(1, 2), 7);
        int[][] due = {{0, 5, 5, 5}, {9, 5, 5, 1}, {3, 0, 10, 5}, {4, 10, 2, 3}};
        for (int p = 0; p < 4; p++) {
            for (int what = 0; what < 4; what++) {
                C.due("oneOf(" + p + ", " + what + ")", x.oneOf(p, what), due[p][what]);
            }
        }
        C.due("more comes to what there is", Check.town(x, "need 1 0;book 5;need 3 2;knows 0 3 1"), 4);
        C.due("NEEDS of 1", x.bookOf(1, 1), 1);
        C.due("KNOWN of the new book", x.known(0, 3), 1);
        C.due("the least and the most", Check.town(x, "one 0 reads 0 keeps 0 tells 0;one 9 reads 10 keeps 10 tells 10;knows 1 2 0"), 3);
        C.due("TELLS 0", x.oneOf(4, 3), 0);
        C.due("KNOWN 0", x.known(1, 2), 0);
        faultsOfForm();
        faultsOfNumbers();
        faultsOfRoom();
    }

    private static void faultsOfForm() {
        fault("", 0);
        fault("   ", 3);
        fault(";", 0);
        fault("book", 4);
        fault("book ", 5);
        fault("book 5;", 7);
        fault("book 5; ", 8);
        fault("book 5;;book 5", 7);
        fault("book 5 book 5", 7);
        fault("book 5 5", 7);
        fault("book 5 good", 11);
        fault("book 5 good 5 good 5", 14);
        fault("book 5 reads 5", 7);
        fault("books 5", 0);
        fault("boo 5", 0);
        fault("hook 5", 0);
        fault("bookz 5", 0);
        fault("book 5z", 6);
        fault("book 5{", 6);
        fault("book 5`", 6);
        fault("book 5:", 6);
        fault("book 5/", 6);
        fault("one 5;z", 6);
        fault("5", 0);
        fault("book;", 4);
        fault("Book 5", 0);
        fault("boOk 5", 0);
        fault("book 5\t", 6);
        fault("book " + (char) 200, 5);
        fault("book 5;one 3 keeps 4 reads 5", 21);
        fault("one 3 reads 5 reads 5", 14);
        fault("one 3 tells 5 keeps 5", 14);
        fault("one 3 good 5", 6);
        fault("one reads 5", 4);
        fault("need 0", 6);
        fault("knows 0 0", 9);
        fault("white 0 0", 8);
        fault("book 5;one 3;x", 13);
    }

    private static void faultsOfNumbers() {
        fault("book 0", 5);
        fault("book 100", 5);
        fault("book 0005", 5);
        fault("book 5 good 1000", 12);
        fault("one 10", 4);
        fault("one 3 reads 11", 12);
        fault("one 3 keeps 11", 12);
        fault("one 3 tells 11", 12);
        fault("book 5;need 2 0", 12);
        fault("book 5;need 1 1", 14);
        fault("book 5;need 0 0", 14);
        fault("book 5;need 0", 13);
        fault("book 5;need 0 1", 14);
        fault("knows 1 0 5", 6);
        fault("knows 0 1 5", 8);
        fault("knows 0 0 1000", 10);
        fault("white 1", 6);
        fault("white 99999999999", 6);
    }

    private static void faultsOfRoom() {
        fault("book 1;book 1;book 1;book 1;book 1;book 1;book 1;book 1", 49);
        fault("book 1;book 1;book 1;book 1;book 1;book 1;book 1; book", 50);
        fault("one 1;one 1;one 1;one 1;one 1;one 1;one 1;one", 42);
        EachBookOnce x = Check.of("book 1;book 1;book 1;book 1;book 1;book 1;book 1;book 1;one 1;one 1;one 1;one 1;one 1;one 1;one 1;one 1");
        C.due("status(0)", x.status(0), 8);
        C.due("status(2)", x.status(2), 8);
        C.due("book without room", Check.town(x, "white 3;book 1"), -28);
        C.due("one without room", Check.town(x, "one 1"), -20);
        C.due("nothing came of it", x.bookOf(3, 3), 0);
    }

    private static void promise15BookOf() {
        EachBookOnce x = Check.of("book 6;book 7 good 300;need 1 0;one 1;one 2;knows 0 1 40;knows 1 1 50;white 1");
        int[] due = {7, 1, 300, 1, 50};
        for (int what = 0; what <= 4; what++) {
            C.due("bookOf(1, " + what + ")", x.bookOf(1, what), due[what]);
        }
        C.due("bookOf(0, 4)", x.bookOf(0, 4), 0);
        C.refused(x, Check.BAD, "bookOf(-1, 0)", () -> x.bookOf(-1, 0));
        C.refused(x, Check.BAD, "bookOf(2, 0)", () -> x.bookOf(2, 0));
        C.refused(x, Check.BAD, "bookOf(0, -1)", () -> x.bookOf(0, -1));
        C.refused(x, Check.BAD, "bookOf(0, 5)", () -> x.bookOf(0, 5));
        EachBookOnce y = Check.of("book 5;one 9;one 0 keeps 10 tells 0;knows 0 0 800;knows 1 0 300");
        y.rule(0, 2, 0);
        y.seed(Check.seedBy(9));
        y.years(0, 1);
        C.due("0 is GONE by a DRAW and KNOWS", y.oneOf(0, 4) * 1000 + y.known(0, 0), 1800);
        C.due("the greatest KNOWN of all PEOPLE", y.bookOf(0, 4), 800);
        C.due("the greatest KNOWN without people", Check.of("book 1").bookOf(0, 4), 0);
    }

    private static void promise16OneOf() {
        EachBookOnce x = Check.of("one 9 reads 1 keeps 2 tells 3;one 4");
        x.ends();
        int[] due = {10, 1, 2, 3, 1};
        for (int what = 0; what <= 4; what++) {
            C.due("oneOf(0, " + what + ")", x.oneOf(0, what), due[what]);
        }
        C.due("oneOf(1, 0)", x.oneOf(1, 0), 5);
        C.due("oneOf(1, 4)", x.oneOf(1, 4), 0);
        C.refused(x, Check.BAD, "oneOf(-1, 0)", () -> x.oneOf(-1, 0));
        C.refused(x, Check.BAD, "oneOf(2, 0)", () -> x.oneOf(2, 0));
        C.refused(x, Check.BAD, "oneOf(0, -1)", () -> x.oneOf(0, -1));
        C.refused(x, Check.BAD, "oneOf(0, 5)", () -> x.oneOf(0, 5));
    }

    private static void promise17Known() {
        EachBookOnce x = Check.of("book 6;book 7;one 1;one 2;knows 0 1 40;knows 1 0 50");
        C.due("known(0, 0)", x.known(0, 0), 0);
        C.due("known(0, 1)", x.known(0, 1), 40);
        C.due("known(1, 0)", x.known(1, 0), 50);
        C.refused(x, Check.BAD, "known(-1, 0)", () -> x.known(-1, 0));
        C.refused(x, Check.BAD, "known(2, 0)", () -> x.known(2, 0));
        C.refused(x, Check.BAD, "known(0, -1)", () -> x.known(0, -1));
        C.refused(x, Check.BAD, "known(0, 2)", () -> x.known(0, 2));
    }

    private static void promise18Alter() {
        EachBookOnce x = Check.of("book 6;one 1;one 9;knows 0 0 40");
        C.due("alter(0, 0, 1000)", x.alter(0, 0, 1000), 40);
        C.due("alter(0, 0, 0)", x.alter(0, 0, 0), 1000);
        C.due("known(0, 0)", x.known(0, 0), 0);
        x.ends();
        C.refused(x, Check.BAD, "alter(2, 0, 1)", () -> x.alter(2, 0, 1));
        C.refused(x, Check.BAD, "alter(-1, 0, 1)", () -> x.alter(-1, 0, 1));
        C.refused(x, Check.BAD, "alter(1, 1, 1)", () -> x.alter(1, 1, 1));
        C.refused(x, Check.BAD, "alter(1, 0, -1)", () -> x.alter(1, 0, -1));
        C.refused(x, Check.BAD, "alter(1, 0, 1001)", () -> x.alter(1, 0, 1001));
        C.refused(x, Check.STUCK, "alter(1, 0, 1) of one GONE", () -> x.alter(1, 0, 1));
    }

    public static void main(String[] args) {
        promise9Book();
        promise10One();
        promise11Ones();
        promise12Feed();
        promise13Wipe();
        promise14Town();
        promise15BookOf();
        promise16OneOf();
        promise17Known();
        promise18Alter();
        C.end();
    }
}
