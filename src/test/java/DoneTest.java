import java.util.function.LongSupplier;

/** Promises 19 to 26: grounds, readings, tellings, writings, the value and the reader. */
public final class DoneTest {
    private static final Check C = new Check();

    interface Pair {
        int made(int one, int book);
    }

    /** Of one and a book that are not there. */
    private static void badPairs(EachBookOnce x, String name, Pair call) {
        int people = x.status(2);
        int books = x.status(0);
        int[][] pairs = {{-1, 0}, {people, 0}, {0, -1}, {0, books}, {Integer.MAX_VALUE, Integer.MIN_VALUE}};
        for (int[] pair : pairs) {
            LongSupplier made = () -> call.made(pair[0], pair[1]);
            C.refused(x, Check.BAD, name + "(" + pair[0] + ", " + pair[1] + ")", made);
        }
    }

    private static void promise19Ground() {
        EachBookOnce x = Check.of("book 1;book 1;book 1;book 1;need 2 0;need 2 1;need 3 2;one 1;one 9;knows 0 0 300;knows 0 1 200;knows 1 0 900");
        C.due("ground without needs", x.ground(0, 0), 1000);
        C.due("ground of two needs", x.ground(0, 2), 200);
        C.due("ground of the nearest needs only", x.ground(0, 3), 0);
        C.due("ground of another", x.ground(1, 2), 0);
        x.alter(0, 0, 150);
        C.due("ground is the least", x.ground(0, 2), 150);
        x.ends();
        C.due("ground of one GONE", x.ground(1, 2), 0);
        badPairs(x, "ground", x::ground);
    }

    private static void promise20Would() {
        EachBookOnce x = Check.of("book 1 good 777;book 1 good 555;need 1 0;one 1 reads 7;one 9;one 1 reads 0;knows 0 0 333;knows 2 0 5;white 1");
        C.due("would(0, 0): 777 * 7 / 10", x.would(0, 0), 543);
        C.due("would() when more is known already", x.would(2, 0), 5);
        C.due("nothing is changed", x.known(0, 0), 333);
        badPairs(x, "would", x::would);
        C.refused(x, Check.STUCK, "would(0, 1): WHITE", () -> x.would(0, 1));
        x.alter(0, 1, 555);
        x.write(0, 1);
        C.due("would(0, 1): 388 * 1333 / 2000", x.would(0, 1), 555);
        x.alter(0, 1, 0);
        C.due("would(0, 1): 388 * 1333 / 2000", x.would(0, 1), 258);
        x.ends();
        C.refused(x, Check.STUCK, "would(1, 0): GONE", () -> x.would(1, 0));
    }

    private static void promise21Read() {
        EachBookOnce x = Check.of("book 1 good 777;book 1 good 555;book 1;need 1 0;one 1 reads 7;one 9 reads 10;one 1 reads 0;knows 2 2 5");
        C.due("read(0, 0)", x.read(0, 0), 543);
        C.due("known(0, 0)", x.known(0, 0), 543);
        C.due("WHITE", x.bookOf(0, 3), 1);
        C.due("GOOD stays", x.bookOf(0, 2), 777);
        C.due("read(0, 1): 388 * 1543 / 2000", x.read(0, 1), 299);
        C.due("read(2, 2), more known already", x.read(2, 2), 5);
        C.due("status(1)", x.status(1), 3);
        badPairs(x, "read", x::read);
        C.refused(x, Check.STUCK, "read(1, 0): WHITE", () -> x.read(1, 0));
        EachBookOnce y = Check.of("book 1;one 9");
        y.ends();
        C.refused(y, Check.STUCK, "read(0, 0): GONE", () -> y.read(0, 0));
    }

    private static void promise22Aloud() {
        EachBookOnce x = Check.of("book 9;book 1 good 999;need 1 0;one 1 reads 10;one 2;one 9;one 3;one 4;"
                + "knows 0 0 500;knows 1 0 1;knows 3 0 999;knows 3 1 373;knows 4 1 250");
        x.ends();
        C.refused(x, Check.BAD, "aloud(0, 1, 32)", () -> x.aloud(0, 1, 32));
        C.refused(x, Check.BAD, "aloud(0, 1, -1)", () -> x.aloud(0, 1, -1));
        badPairs(x, "aloud", (p, b) -> x.aloud(p, b, 0));
        C.refused(x, Check.STUCK, "aloud(2, 1, 1): GONE", () -> x.aloud(2, 1, 1));
        x.alter(0, 0, 500);
        x.alter(1, 0, 1);
        x.alter(3, 0, 999);
        x.alter(3, 1, 372);
        x.alter(4, 1, 250);
        // The reader: 999 * 1500 / 2000 is 749, half of it 374: by grounds 1, 999, 0 these are 187, 373, 187.
        C.due("aloud(0, 1, 31)", x.aloud(0, 1, 31), 2);
        int[] due = {749, 187, 0, 373, 250};
        for (int p = 0; p < 5; p++) {
            C.due("known(" + p + ", 1)", x.known(p, 1), due[p]);
        }
        C.due("WHITE", x.bookOf(1, 3), 1);
        C.refused(x, Check.BAD, "aloud(0, 1, 64): BAD ahead of STUCK", () -> x.aloud(0, 1, 64));
        C.refused(x, Check.STUCK, "aloud(0, 1, 31): WHITE", () -> x.aloud(0, 1, 31));
        C.due("aloud(3, 0, 2): only these hear it", x.aloud(3, 0, 2), 1);
        C.due("known(4, 0)", x.known(4, 0), 0);
        C.due("known(1, 0)", x.known(1, 0), 499);
        EachBookOnce y = Check.of("book 9;one 1 reads 1;one 2;knows 0 0 900");
        C.due("half of what the reader knows, not of what they read", y.aloud(0, 0, 3), 1);
        C.due("known(1, 0)", y.known(1, 0), 450);
        EachBookOnce z = Check.of("book 9;book 9;one 1;one 2 reads 10;knows 0 1 500");
        C.due("the first hears too", z.aloud(1, 0, 1), 1);
        C.due("known(0, 0)", z.known(0, 0), 500);
        C.due("as much as was known is no more", z.aloud(1, 1, 1), 0);
        EachBookOnce g = Check.of("book 1;book 1;need 1 0;one 1;one 1;one 1 reads 10;knows 1 0 800;knows 2 0 600");
        C.due("ground(1, 1)", g.ground(1, 1), 800);
        C.due("ground(2, 1)", g.ground(2, 1), 600);
    }

    private static void promise23Tell() {
        EachBookOnce x = Check.of("book 9;book 1;one 1 tells 7;one 2 tells 10;one 9;knows 0 0 555;knows 1 0 380;knows 0 1 10");
        C.due("tell(0, 1, 0): 388", x.tell(0, 1, 0), 8);
        C.due("known(1, 0)", x.known(1, 0), 388);
        C.due("tell(0, 1, 0) again", x.tell(0, 1, 0), 0);
        C.due("tell(1, 0, 0): less is no more", x.tell(1, 0, 0), 0);
        C.due("known(0, 0)", x.known(0, 0), 555);
        C.due("tell(0, 2, 1)", x.tell(0, 2, 1), 7);
        badPairs(x, "tell .. other", (p, b) -> x.tell(p, p == 0 ? 1 : 0, b));
        C.refused(x, Check.BAD, "tell(0, 3, 0)", () -> x.tell(0, 3, 0));
        C.refused(x, Check.BAD, "tell(0, -1, 0)", () -> x.tell(0, -1, 0));
        C.refused(x, Check.BAD, "tell(0, 0, 0)", () -> x.tell(0, 0, 0));
        x.ends();
        C.refused(x, Check.BAD, "tell(2, 2, 0): BAD ahead of STUCK", () -> x.tell(2, 2, 0));
        C.refused(x, Check.STUCK, "tell(2, 0, 0)", () -> x.tell(2, 0, 0));
        C.refused(x, Check.STUCK, "tell(0, 2, 0)", () -> x.tell(0, 2, 0));
    }

    private static void promise24Write() {
        EachBookOnce x = Check.of("book 9;book 1;one 1;one 9;one 2;knows 0 0 555;knows 2 0 1;white 0");
        badPairs(x, "write", x::write);
        C.refused(x, Check.STUCK, "write(0, 1): not WHITE", () -> x.write(0, 1));
        C.refused(x, Check.STUCK, "write(1, 0): nothing KNOWN", () -> x.write(1, 0));
        C.due("write(2, 0)", x.write(2, 0), 1);
        C.due("GOOD", x.bookOf(0, 2), 1);
        C.due("WHITE", x.bookOf(0, 3), 0);
        C.refused(x, Check.STUCK, "write(0, 0): not WHITE now", () -> x.write(0, 0));
        C.due("it may be read again", x.read(0, 0), 555);
        C.due("write(0, 0)", x.write(0, 0), 555);
        C.due("GOOD", x.bookOf(0, 2), 555);
        // One who is GONE by a DRAW still has KNOWN, but can't write.
        EachBookOnce y = Check.of("book 9;one 9 keeps 10;knows 0 0 700;white 0");
        y.rule(0, 4, 0);
        y.seed(Check.seedBy(9));
        y.years(0, 1);
        C.due("GONE", y.oneOf(0, 4), 1);
        C.due("AGE stays", y.oneOf(0, 0), 9);
        C.refused(y, Check.STUCK, "write(0, 0): GONE", () -> y.write(0, 0));
    }

    private static void promise25Value() {
        EachBookOnce x = Check.of("book 9;book 99;book 5;one 1;one 2;one 9;knows 0 0 10;knows 1 0 20;knows 0 1 999;knows 2 2 999");
        C.due("value()", x.value(), 9 * 20 + 99 * 999 + 5 * 999);
        x.ends();
        C.due("value() without the one GONE: 95 of 100 are kept", x.value(), 9 * 19 + 99 * 949);
        C.due("value() without people", Check.of("book 9").value(), 0);
        EachBookOnce y = Check.of("book 9;one 9 keeps 10;knows 0 0 700");
        y.rule(0, 4, 0);
        y.seed(Check.seedBy(9));
        y.years(0, 1);
        C.due("KNOWN of one GONE by a DRAW stays", y.known(0, 0), 700);
        C.due("but is of no VALUE", y.value(), 0);
    }

    private static void promise26Reader() {
        EachBookOnce x = Check.of("book 9;book 5;book 5;one 5 reads 8;one 4 reads 8;one 4 reads 8;one 9 reads 10;one 0 reads 7;knows 0 1 999;white 2");
        C.due("reader(0): who would know most", x.reader(0), 3);
        C.due("reader(1): the known counts, 1,000 is more than 999", x.reader(1), 3);
        x.ends();
        C.due("reader(0): of several the youngest, then the first", x.reader(0), 1);
        C.due("reader(1): what is known already counts", x.reader(1), 0);
        C.refused(x, Check.BAD, "reader(-1)", () -> x.reader(-1));
        C.refused(x, Check.BAD, "reader(3)", () -> x.reader(3));
        C.refused(x, Check.STUCK, "reader(2): WHITE", () -> x.reader(2));
        EachBookOnce y = Check.of("book 9;book 8;white 1");
        C.due("reader(0) with nobody", y.reader(0), -1);
        C.refused(y, Check.STUCK, "reader(1): WHITE, nobody there", () -> y.reader(1));
        EachBookOnce z = Check.of("book 9;one 3 reads 0;one 3 reads 0");
        C.due("reader(0) of those who would know nothing", z.reader(0), 0);
    }

    public static void main(String[] args) {
        promise19Ground();
        promise20Would();
        promise21Read();
        promise22Aloud();
        promise23Tell();
        promise24Write();
        promise25Value();
        promise26Reader();
        C.end();
    }
}
