/** Promises 27 to 34 and 40 to 42: runs by rules, and what is best. */
public final class BestTest {
    private static final Check C = new Check();

    private static void badRuleCalls(EachBookOnce x, int below, java.util.function.IntBinaryOperator call) {
        // Shelf 6 holds a row, shelf 7 nothing.
        int[][] bad = {{-1, 5}, {8, 5}, {6, 0}, {7, 0}, {0, -1}, {0, 61}};
        for (int[] two : bad) {
            C.refusedAs(x, Check.BAD, Check.BAD - below, "by shelf " + two[0] + ", " + two[1] + " years", () -> call.applyAsInt(two[0], two[1]));
        }
        C.refusedAs(x, Check.OTHER, Check.OTHER - below, "by a row", () -> call.applyAsInt(6, 5));
        C.refusedAs(x, Check.NOTHING, Check.NOTHING - below, "by nothing", () -> call.applyAsInt(7, 5));
    }

    private static EachBookOnce ruled(String text) {
        EachBookOnce x = Check.of(text);
        for (int kind = 1; kind <= 6; kind++) {
            x.rule(kind - 1, kind, 1);
        }
        x.row(6, 3, 5);
        return x;
    }

    private static void promise27Run() {
        EachBookOnce x = ruled("book 2;book 3;one 7 reads 10 keeps 0;one 8 reads 0 keeps 10 tells 10");
        String before = Check.picture(x);
        // NOW: all is read by the first in the first year, then a tenth is lost a year, and nobody is left behind the third.
        C.due("NOW, one year", x.run(0, 1, 0), 5000);
        C.due("NOW, three years", x.run(0, 3, 0), 5000 + 4500 + 4050);
        C.due("NOW, 60 years", x.run(0, 60, 0), 5000 + 4500 + 4050);
        C.due("NOW, last of three", x.run(0, 3, 1), 4050);
        C.due("NOW, last of four", x.run(0, 4, 1), 0);
        C.due("NOW, WHITE", x.run(0, 60, 2), 2);
        C.due("there behind one", x.run(0, 1, 3), 2);
        C.due("there behind two", x.run(0, 2, 3), 1);
        C.due("there behind three", x.run(0, 3, 3), 0);
        // FEW, 1: book 1 (WORTH 3) first, book 0 a year later.
        C.due("FEW, one year", x.run(1, 1, 0), 3000);
        C.due("FEW, WHITE behind one year", x.run(1, 1, 2), 1);
        C.due("FEW, two years", x.run(1, 2, 0), 3000 + 2700 + 2000);
        // LOUD: the second hears half of it and keeps it whole, and is gone behind two years.
        C.due("LOUD, three years", x.run(2, 3, 0), 5000 + 4500 + 4050);
        C.due("CHAIN, nothing known", x.run(3, 9, 0), 0);
        C.due("TWICE, nothing known", x.run(4, 9, 0), 0);
        // SAGE: told 5 of 10 by the first in the second year.
        C.due("SAGE, two years", x.run(5, 2, 0), 3000 + 2700 + 2000);
        C.same("the town behind runs", Check.picture(x), before);
        badRuleCalls(x, 0, (s, n) -> x.run(s, n, 0));
        C.refused(x, Check.BAD, "run(0, 1, -1)", () -> x.run(0, 1, -1));
        C.refused(x, Check.BAD, "run(0, 1, 4)", () -> x.run(0, 1, 4));
        C.refused(x, Check.BAD, "run(6, 1, 4): BAD ahead of OTHER", () -> x.run(6, 1, 4));
        chains();
        loudAndSage();
    }

    private static void loudAndSage() {
        // Read by 0 alone it is gone with them; ALOUD 1 knows half of it a year later (and keeps it).
        EachBookOnce x = ruled("book 2;book 3;one 9 reads 10 keeps 10;one 0 reads 0 keeps 10 tells 10");
        C.due("NOW, two years", x.run(0, 2, 0), 5000);
        C.due("FEW, two years", x.run(1, 2, 0), 3000);
        C.due("LOUD, two years", x.run(2, 2, 0), 5000 + 2500);
        C.due("SAGE reads behind its chain, so nothing is told", x.run(5, 2, 0), 3000);
        EachBookOnce y = ruled("book 2;one 9 reads 10 keeps 10 tells 10;one 0 reads 0 keeps 10;knows 0 0 400");
        C.due("SAGE tells what was known ahead", y.run(5, 2, 0), 2000 + 800);
        C.due("NOW tells nothing", y.run(0, 2, 0), 2000);
        // Of two books of the same WORTH the first is read first.
        EachBookOnce z = ruled("book 3;book 7;book 7;one 1 reads 10");
        z.years(1, 1);
        C.due("FEW reads the first of the dearest", z.bookOf(0, 3) * 4 + z.bookOf(1, 3) * 2 + z.bookOf(2, 3), 2);
        z.years(1, 1);
        C.due("then the second of them", z.bookOf(0, 3) * 4 + z.bookOf(1, 3) * 2 + z.bookOf(2, 3), 3);
        EachBookOnce all = ruled("book 1;book 1;book 1;book 1;book 1;book 1;book 1;book 1;one 3");
        C.due("NOW reads eight", all.says(0, 1), 8);
        C.due("eight WHITE", all.run(0, 1, 2), 8);
    }

    private static void chains() {
        // 2 is the youngest, 1 the youngest other of 2: 0 tells 2, 1 tells 2, 2 tells 1.
        EachBookOnce x = ruled("book 10;one 5 keeps 10 tells 10;one 4 keeps 10 tells 5;one 3 keeps 10 tells 8;knows 0 0 500");
        C.due("CHAIN leaves VALUE", x.says(3, 4), 5000);
        C.due("CHAIN, 5 years", x.run(3, 5, 0), 25000);
        C.due("CHAIN, 6 years: 2 was told 500", x.run(3, 6, 0), 30000);
        C.due("CHAIN, last of 7 years", x.run(3, 7, 1), 5000);
        C.due("CHAIN, 8 years", x.run(3, 8, 0), 35000);
        // Behind a chain of two in which the second tells back, the first knows what came around.
        EachBookOnce y = ruled("book 1;one 8 keeps 10 tells 1;one 7 keeps 10 tells 10;one 9 keeps 10 tells 10;knows 0 0 900");
        C.due("once: 1 hears of 0 (90), 0 keeps its 900", y.run(3, 2, 0), 1800);
        C.due("then 1 alone is left, with 90", y.run(3, 3, 1), 90);
        // 0 tells 1 before 2 tells 0, so that once 1 knows nothing of it, twice it does.
        EachBookOnce z = ruled("book 1;one 2 keeps 10 tells 10;one 3 keeps 10 tells 10;one 9 keeps 10 tells 10;knows 2 0 800");
        C.due("CHAIN, last of 8 years", z.run(3, 8, 1), 800);
        EachBookOnce v = ruled("book 1;one 0 keeps 10 tells 10;one 0 keeps 10 tells 10;one 9 keeps 10 tells 10;knows 2 0 800");
        v.years(3, 1);
        C.due("CHAIN: told to the first of the youngest", v.known(0, 0), 800);
        C.due("CHAIN: 1 not yet", v.known(1, 0), 0);
        EachBookOnce u = ruled("book 1;one 0 keeps 10 tells 10;one 0 keeps 10 tells 10;one 9 keeps 10 tells 10;knows 2 0 800");
        u.years(4, 1);
        C.due("TWICE: 0 tells it to 1", u.known(1, 0), 800);
    }

    private static void promise28Head() {
        EachBookOnce x = ruled("book 2;book 3;one 7 reads 10 keeps 0;one 8 reads 0 keeps 10 tells 10");
        C.due("head(1): NOW is the first of those that read all", x.head(1), 0);
        x.rule(0, 4, 0);
        C.due("head(1) without NOW", x.head(1), 2);
        x.rule(2, 4, 0);
        C.due("head(1): FEW", x.head(1), 1);
        x.rule(1, 4, 0);
        C.due("head(1): SAGE", x.head(1), 5);
        x.rule(5, 4, 0);
        C.due("head(1): all alike", x.head(1), 0);
        C.refused(x, Check.BAD, "head(0)", () -> x.head(0));
        C.refused(x, Check.BAD, "head(61)", () -> x.head(61));
        EachBookOnce y = Check.of("book 2;one 1");
        y.row(0, 1, 1);
        C.refused(y, Check.BAD, "head(0) without rules", () -> y.head(0));
        C.refused(y, Check.STUCK, "head(1) without rules", () -> y.head(1));
        y.rule(7, 1, 0);
        C.due("head(60)", y.head(60), 7);
    }

    private static void promise29Who() {
        // 0 would know more, 1 lives longer: 1,000 for one year, or 800 for three.
        EachBookOnce x = Check.of("book 5;book 4;one 9 reads 10;one 7 reads 8 keeps 10;one 7 reads 8 keeps 10;white 1");
        C.due("who(0, 1)", x.who(0, 1), 0);
        C.due("who(0, 2)", x.who(0, 2), 1);
        C.due("who(0, 60)", x.who(0, 60), 1);
        C.due("nothing is changed", x.bookOf(0, 3), 0);
        C.refused(x, Check.BAD, "who(-1, 1)", () -> x.who(-1, 1));
        C.refused(x, Check.BAD, "who(2, 1)", () -> x.who(2, 1));
        C.refused(x, Check.BAD, "who(1, 0)", () -> x.who(1, 0));
        C.refused(x, Check.BAD, "who(0, 61)", () -> x.who(0, 61));
        C.refused(x, Check.STUCK, "who(1, 1): WHITE", () -> x.who(1, 1));
        EachBookOnce y = Check.of("book 5;one 9");
        y.ends();
        C.refused(y, Check.STUCK, "who(0, 1): nobody", () -> y.who(0, 1));
        // Of no use to read it by 0: the SUM is that of what 1 knows already; so the first is taken.
        EachBookOnce z = Check.of("book 5;one 3 reads 1;one 3 reads 2;knows 1 0 900");
        C.due("who(0, 3) of several the first", z.who(0, 3), 0);
    }

    private static void promise30Order() {
        EachBookOnce x = Check.of("book 1;book 9;book 1;need 1 0;need 2 1;one 2 reads 10;one 9;one 3 reads 0");
        // 0, 1, 2 in this order are known wholly.
        C.due("order(0, NONE)", x.order(0, -1), 11000);
        for (int i = 0; i < 3; i++) {
            C.due("order(0, " + i + ")", x.order(0, i), i);
        }
        C.due("order(2, NONE) of nothing gained", x.order(2, -1), 0);
        C.due("order(2, 0): of several the first row", x.order(2, 0), 0);
        C.due("order(2, 2)", x.order(2, 2), 2);
        C.due("nothing is changed", x.status(1), 0);
        C.refused(x, Check.BAD, "order(-1, 0)", () -> x.order(-1, 0));
        C.refused(x, Check.BAD, "order(3, 0)", () -> x.order(3, 0));
        C.refused(x, Check.BAD, "order(0, -2)", () -> x.order(0, -2));
        C.refused(x, Check.BAD, "order(0, 3)", () -> x.order(0, 3));
        x.ends();
        C.refused(x, Check.BAD, "order(1, 3): BAD ahead of STUCK", () -> x.order(1, 3));
        C.refused(x, Check.STUCK, "order(1, 0): GONE", () -> x.order(1, 0));
        x.alter(0, 0, 1000);
        x.alter(0, 2, 500);
        Check.town(x, "white 0");
        C.due("known ones count too: 0 and 1 and 2", x.order(0, -1), 11000);
        C.due("WHITE ones aren't read", x.order(0, 0), 1);
        C.due("order(0, 1)", x.order(0, 1), 2);
        C.refused(x, Check.BAD, "order(0, 2)", () -> x.order(0, 2));
        x.read(0, 1);
        x.read(0, 2);
        C.due("order(0, NONE) with nothing to read", x.order(0, -1), 11000);
        C.refused(x, Check.BAD, "order(0, 0) with nothing to read", () -> x.order(0, 0));
        ordersOfFive();
    }

    private static void ordersOfFive() {
        // The needs are of lesser numbers, so what is known by rising numbers is best, and any other is less.
        EachBookOnce x = Check.of("book 5;book 4;book 3;book 2;book 1;need 1 0;need 2 1;need 3 2;need 4 3;one 1 reads 10");
        C.due("order(0, NONE) of five", x.order(0, -1), 15000);
        C.due("order(0, 4)", x.order(0, 4), 4);
        x.book(9, 0);
        C.refused(x, Check.BAD, "order(0, 6)", () -> x.order(0, 6));
        C.refused(x, Check.STUCK, "order(0, 5) of six", () -> x.order(0, 5));
        C.refused(x, Check.STUCK, "order(0, NONE) of six", () -> x.order(0, -1));
        x.read(0, 5);
        C.due("order(0, NONE), one of them WHITE", x.order(0, -1), 24000);
        // A ground that is known ahead is as good as one that is read: still the first row.
        EachBookOnce y = Check.of("book 5 good 100;book 4;book 9;need 1 0;need 2 0;one 1 reads 10;knows 0 0 600;knows 0 2 700;white 1");
        C.due("order(0, NONE): 600 of 0, 800 of 2", y.order(0, -1), 3000 + 7200);
        C.due("order(0, 0)", y.order(0, 0), 0);
        C.due("order(0, 1)", y.order(0, 1), 2);
    }

    private static void promise31Keeping() {
        EachBookOnce x = Check.of("book 10;book 1;one 8 reads 10 keeps 10;one 7 reads 5 keeps 10;white 1");
        // Now by 0: 10,000 twice (by 1: 5,000 thrice); kept: 0, then by 0 once 10,000, or by 1 5,000 twice.
        C.due("keeping(0, 2)", x.keeping(0, 2), 10000 - 20000);
        C.due("keeping(0, 3)", x.keeping(0, 3), 10000 - 20000);
        C.due("keeping(0, 60)", x.keeping(0, 60), -10000);
        // What is known of its needs a year later, when nothing is done, is never more; a reader who dies is the loss.
        EachBookOnce y = Check.of("book 10;one 9 reads 10 keeps 10;one 2 reads 9 keeps 10");
        C.due("keeping(0, 2): 1 reads it now, and then", y.keeping(0, 2), 9000 - 18000);
        // Nothing is lost by keeping what another knows as well, and something is won where they forget it.
        EachBookOnce z = Check.of("book 10;one 1 reads 9 keeps 0;knows 0 0 950");
        C.due("keeping(0, 2): 950, then 900 read anew", z.keeping(0, 2), 9500 + 9000 - (9500 + 8550));
        C.due("keeping(0, 3)", z.keeping(0, 3), 9500 + 9000 + 8100 - (9500 + 8550 + 7690));
        C.due("nothing is changed", z.bookOf(0, 3), 0);
        int below = 1000000;
        C.refusedAs(x, Check.BAD, -1000002, "keeping(-1, 2)", () -> x.keeping(-1, 2));
        C.refusedAs(x, Check.BAD, Check.BAD - below, "keeping(2, 2)", () -> x.keeping(2, 2));
        C.refusedAs(x, Check.BAD, Check.BAD - below, "keeping(1, 1)", () -> x.keeping(1, 1));
        C.refusedAs(x, Check.BAD, Check.BAD - below, "keeping(0, 61)", () -> x.keeping(0, 61));
        C.refusedAs(x, Check.STUCK, -1000005, "keeping(1, 2): WHITE", () -> x.keeping(1, 2));
        EachBookOnce v = Check.of("book 10;one 9");
        C.refusedAs(v, Check.STUCK, Check.STUCK - below, "keeping(0, 2): nobody then", () -> v.keeping(0, 2));
        v.ends();
        C.refusedAs(v, Check.STUCK, Check.STUCK - below, "keeping(0, 2): nobody now", () -> v.keeping(0, 2));
        whoThenIsOfThoseThereThen();
    }

    private static void whoThenIsOfThoseThereThen() {
        EachBookOnce x = Check.of("book 10;one 9 reads 10 keeps 10;one 5 reads 4 keeps 10");
        // Over two years now 0 brings 10,000 and 1 twice 4,000; a year later only 1 is there.
        C.due("keeping(0, 2)", x.keeping(0, 2), 4000 - 10000);
    }

    private static void promise32Left() {
        EachBookOnce x = new EachBookOnce();
        C.due("left(1000, 9, 0)", x.left(1000, 9, 0), 1000);
        C.due("left(999, 9, 1)", x.left(999, 9, 1), 899);
        C.due("left(999, 9, 2)", x.left(999, 9, 2), 809);
        C.due("left(1000, 10, 99)", x.left(1000, 10, 99), 1000);
        C.due("left(1000, 0, 1)", x.left(1000, 0, 1), 0);
        C.due("left(0, 10, 5)", x.left(0, 10, 5), 0);
        C.refused(x, Check.BAD, "left(-1, 1, 1)", () -> x.left(-1, 1, 1));
        C.refused(x, Check.BAD, "left(1001, 1, 1)", () -> x.left(1001, 1, 1));
        C.refused(x, Check.BAD, "left(1, -1, 1)", () -> x.left(1, -1, 1));
        C.refused(x, Check.BAD, "left(1, 11, 1)", () -> x.left(1, 11, 1));
        C.refused(x, Check.BAD, "left(1, 1, -1)", () -> x.left(1, 1, -1));
        C.refused(x, Check.BAD, "left(1, 1, 100)", () -> x.left(1, 1, 100));
    }

    private static void promise33Longest() {
        EachBookOnce x = new EachBookOnce();
        C.due("longest(1000, 5, 500)", x.longest(1000, 5, 500), 1);
        C.due("longest(1000, 5, 501)", x.longest(1000, 5, 501), 0);
        C.due("longest(1000, 5, 1)", x.longest(1000, 5, 1), 9);
        C.due("longest(6, 10, 6)", x.longest(6, 10, 6), 99);
        C.due("longest(5, 10, 6)", x.longest(5, 10, 6), -1);
        C.due("longest(0, 10, 1)", x.longest(0, 10, 1), -1);
        C.due("longest(7, 0, 7)", x.longest(7, 0, 7), 0);
        C.due("NONE is no refusal", x.status(12), 0);
        C.refused(x, Check.BAD, "longest(-1, 1, 1)", () -> x.longest(-1, 1, 1));
        C.refused(x, Check.BAD, "longest(1001, 1, 1)", () -> x.longest(1001, 1, 1));
        C.refused(x, Check.BAD, "longest(1, -1, 1)", () -> x.longest(1, -1, 1));
        C.refused(x, Check.BAD, "longest(1, 11, 1)", () -> x.longest(1, 11, 1));
        C.refused(x, Check.BAD, "longest(1, 1, 0)", () -> x.longest(1, 1, 0));
        C.refused(x, Check.BAD, "longest(1, 1, 1001)", () -> x.longest(1, 1, 1001));
    }

    private static void promise34Hangs() {
        EachBookOnce x = Check.of("book 5;book 9;one 1;one 1;one 9;knows 0 0 900;knows 1 1 500;knows 2 1 999;knows 1 0 890");
        C.due("hangs(): without 2 VALUE is 9,000 less 4,491", x.hangs(), 2);
        x.ends();
        C.due("hangs() of those left", x.hangs(), 1);
        EachBookOnce y = Check.of("book 5;one 1;one 1");
        C.due("hangs() of several the first", y.hangs(), 0);
        EachBookOnce z = Check.of("book 5;one 9;one 1");
        z.ends();
        C.due("hangs() of the only one", z.hangs(), 1);
        EachBookOnce none = new EachBookOnce();
        C.refused(none, Check.STUCK, "hangs() of nobody", none::hangs);
    }

    private static void promise40Next() {
        EachBookOnce x = Check.of("book 5;book 9;book 9;book 99;one 1 reads 10;one 9 reads 10;knows 1 1 900;white 3");
        C.due("next(): 9 times 1,000 more", x.next(), 2);
        x.read(0, 2);
        C.due("next(): 5 times 1,000 more", x.next(), 0);
        x.read(0, 0);
        C.due("next(): 9 times 100 more", x.next(), 1);
        x.read(0, 1);
        C.due("next() with all WHITE", x.next(), -1);
        EachBookOnce y = Check.of("book 5;book 5;one 1;knows 0 0 900;knows 0 1 500");
        C.due("next() where nothing is more than now", y.next(), -1);
        y.alter(0, 1, 499);
        C.due("next() where 1 more is", y.next(), 1);
        y.alter(0, 0, 499);
        C.due("next() of several the first", y.next(), 0);
        EachBookOnce z = Check.of("book 1;one 1 reads 10;knows 0 0 999");
        C.due("next() by 1 more of WORTH 1", z.next(), 0);
        C.due("next() with nobody", Check.of("book 5").next(), -1);
        C.due("next() refuses nothing", y.status(12) + y.status(15), 0);
    }

    private static void promise41Two() {
        EachBookOnce x = Check.of("book 5;book 9;one 1 keeps 10;one 1 keeps 10;one 9 keeps 10;knows 0 0 900;knows 1 0 500;knows 1 1 600;knows 2 1 999");
        C.due("two(0, 1)", x.two(0, 1), 4500 + 5400);
        C.due("two(1, 0)", x.two(1, 0), 4500 + 5400);
        C.due("two(0, 2)", x.two(0, 2), 4500 + 8991);
        C.due("two(1, 1)", x.two(1, 1), 2500 + 5400);
        C.refused(x, Check.BAD, "two(-1, 0)", () -> x.two(-1, 0));
        C.refused(x, Check.BAD, "two(0, 3)", () -> x.two(0, 3));
        x.rule(0, 4, 0);
        // A seed by whose third draw 2 is GONE (and its KNOWN stays), by whose first and second nobody is.
        x.seed(Check.seedBy(-1, -1, 9));
        x.years(0, 1);
        C.due("2 is GONE by a DRAW", x.oneOf(2, 4) * 10 + x.oneOf(0, 4) + x.oneOf(1, 4), 10);
        C.due("and still KNOWS", x.known(2, 1), 999);
        C.due("two(2, 2) of one GONE", x.two(2, 2), 0);
        C.due("two(0, 2) of one there", x.two(0, 2), 5 * x.known(0, 0) + 9 * x.known(0, 1));
    }

    private static void promise42Gains() {
        EachBookOnce x = ruled("book 2;book 3;one 7 reads 10 keeps 0;one 8 reads 0 keeps 10 tells 10;knows 0 0 500");
        C.due("gains(0, 1)", x.gains(0, 1), 5000 - 1000);
        C.due("gains(0, 2)", x.gains(0, 2), 5000 + 4500 - 1000 - 900);
        C.due("gains(3, 60): the second is told it and keeps it, for less", x.gains(3, 60), 0);
        badRuleCalls(x, 1000000, x::gains);
        C.due("gains() of nobody", ruled("book 2").gains(0, 5), 0);
    }

    public static void main(String[] args) {
        promise27Run();
        promise28Head();
        promise29Who();
        promise30Order();
        promise31Keeping();
        promise32Left();
        promise33Longest();
        promise34Hangs();
        promise40Next();
        promise41Two();
        promise42Gains();
        C.end();
    }
}
