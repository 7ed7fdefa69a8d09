/** Promise by promise: ordinary calls, the edges that the document names, refusals and which of several comes first. */
public final class PromiseTest extends Asker {
    /** A bath in which each size shows, a coarse one, and bathers of whom the last one never comes. */
    private static final String EXACT = "bath 1 1 10 2;bath 10 1 3 0;odd 4;"
        + "bather 1 100 5 50;bather 1 100 10 100;bather 20 30 25 0;";

    public static void main(String[] args) {
        newObject();
        feed();
        house();
        faults();
        faultsThatComeFirst();
        fault();
        told();
        bath();
        bather();
        height();
        span();
        morning();
        narrowed();
        strike();
        wrong();
        canBe();
        likely();
        odds();
        tells();
        alike();
        needed();
        neededFirst();
        away();
        called();
        write();
        tear();
        judge();
        drift();
        forget();
        seed();
        keep();
        goBack();
        finish();
    }

    private static void newObject() {
        about("promise 1");
        BathWater x = new BathWater();
        for (int what = 0; what < 7; what++) {
            due("told(" + what + ")", x.told(what), what == 2 ? 5 : 0);
        }
        due("fault()", x.fault(), NONE);
        due("bath(0, 0)", x.bath(0, 0), UNKNOWN);
        due("bather(0, 0)", x.bather(0, 0), UNKNOWN);
        due("height(0, 0, 0)", x.height(0, 0, 0), UNKNOWN);
        due("odds(0)", x.odds(0), 1000000000);
        due("odds(1)", x.odds(1), UNKNOWN);
        due("alike(0)", x.alike(0), 1);
        due("needed(1, 0)", x.needed(1, 0), 0);
        due("needed(1, 2)", x.needed(1, 2), NONE);
        due("wrong()", x.wrong(), 0);
        due("away()", x.away(), NONE);
        due("judge()", x.judge(), NONE);
        due("keep(0)", x.keep(0), 1);
        due("goBack(1)", x.goBack(1), NOT);
        due("seed(3)", x.seed(3), 0);
        due("seed(0) of another", new BathWater().seed(0), 0);
    }

    private static void feed() {
        about("promise 2");
        BathWater x = new BathWater();
        due("feed(0)", x.feed(0, 65), OUTSIDE);
        due("feed(9)", x.feed(9, 65), OUTSIDE);
        due("feed(-1)", x.feed(-1, 65), OUTSIDE);
        due("feed(least)", x.feed(LEAST, 65), OUTSIDE);
        due("told(5)", x.told(5), 0);
        due("feed 'o'", x.feed(1, 0x7777776fL), 1);
        due("feed 'dd '", x.feed(3, 0xff646420L), 4);
        due("feed '00000009'", x.feed(8, 0x2020202020202039L), 12);
        due("feed ';'", x.feed(1, ';'), 13);
        due("house()", x.house(), 0);
        due("told(2)", x.told(2), 9);
        for (int i = 1; i <= 49; i++) {
            due("feed blanks", x.feed(8, 0x2020202020202020L), 8 * i);
        }
        due("feed 7 blanks", x.feed(7, 0x20202020202020L), 399);
        due("feed(2) too many", x.feed(2, 0x2020), FULL);
        due("told(5)", x.told(5), 399);
        due("feed(1) the last", x.feed(1, 0x20), 400);
        due("feed(1) full", x.feed(1, 0x20), FULL);
        due("feed(9) outside ahead of full", x.feed(9, 0x20), OUTSIDE);
        due("house() of blanks", x.house(), 0);
        due("feed(1) again", x.feed(1, 0x20), 1);
    }

    private static void house() {
        about("promise 3");
        BathWater x = with(EXACT);
        x.morning(0, 0, 1, 15);
        x.write(0, 0, 1, 14);
        x.keep(0);
        x.keep(1);
        put(x, "bath 0 1 1 1;");
        due("house() with a fault", x.house(), -12);
        due("text is empty then", x.told(5), 0);
        due("baths stay", x.told(0), 2);
        due("bathers stay", x.told(1), 3);
        due("odd stays", x.told(2), 4);
        due("mornings stay", x.told(3), 1);
        due("book stays", x.told(4), 1);
        due("ends stay", x.bather(0, 5), 5);
        due("images stay", x.goBack(0), 1);
        due("cases stay", x.alike(0), 1);
        x.seed(77);
        put(x, "bath 2 3 4 5;bather 7 9 8 100;");
        due("house()", x.house(), 1);
        due("text is empty", x.told(5), 0);
        due("fault()", x.fault(), NONE);
        due("baths", x.told(0), 1);
        due("odd is untold", x.told(2), 5);
        due("no mornings", x.told(3), 0);
        due("no book", x.told(4), 0);
        due("image 0 is gone", x.goBack(0), NOT);
        due("image 1 is gone", x.goBack(1), NOT);
        due("seed stays", x.seed(0), 77);
        due("ends are at first", x.bather(0, 4), 7);
        due("cases are its own", x.alike(2), UNKNOWN);
        due("cases are its own", x.alike(0), 1 | 2);
        put(x, "odd 9;");
        due("odd, told again", x.house(), 0);
        due("odd", x.told(2), 9);
        due("house() of an empty text", x.house(), 0);
        due("odd is untold", x.told(2), 5);
        due("house() of an empty text", x.house(), 0);
        due("odd is untold once more", x.told(2), 5);
        due("no baths", x.told(0), 0);
        due("no bathers", x.told(1), 0);
    }

    private static void text(String text, int fault, int place) {
        BathWater x = new BathWater();
        put(x, text);
        int answer = x.house();
        due("house() of '" + text + "'", fault == 0 ? Math.min(answer, 0) : answer, fault == 0 ? 0 : -10 - fault);
        due("fault() of '" + text + "'", x.fault(), place);
    }

    private static void good(String text, int baths, int bathers) {
        BathWater x = new BathWater();
        put(x, text);
        due("house() of '" + text + "'", x.house(), bathers);
        due("baths of '" + text + "'", x.told(0), baths);
        due("fault() of '" + text + "'", x.fault(), NONE);
    }

    private static void faults() {
        about("promise 3");
        good("", 0, 0);
        good("   ", 0, 0);
        good("bath1 1 0 0;", 1, 0);
        good("  bath  99  0099 9999 99 ;  bath 1 0001 0000 0;", 2, 0);
        good("bather1 999 999 100;bather 5 5 5 0;", 0, 2);
        good("bather 999 999 999 100;", 0, 1);
        good("odd999;", 0, 0);
        good("bath 99 99 9999 99;", 1, 0);
        good("bath 1 1 0 0;" + times(6, "bather 1 2 1 3;") + "bath 1 1 0 0;odd 1;", 2, 6);
        text("Bath 1 1 0 0;", 1, 0);
        text("bat 1 1 0 0;", 1, 0);
        text("bathe 1 1 0 0;", 1, 0);
        text("bathers 1 1 1 0;", 1, 0);
        text("cath 1 1 0 0;", 1, 0);
        text("batg 1 1 0 0;", 1, 0);
        text("batha 1 1 0 0;", 1, 0);
        text("bathz 1 1 0 0;", 1, 0);
        text("bath` 1 1 0 0;", 1, 4);
        text("bath{ 1 1 0 0;", 1, 4);
        text("bath /1 1 0 0;", 1, 5);
        text("bath 1: 1 0 0;", 1, 6);
        text("  odds", 1, 2);
        text("5", 1, 0);
        text("12345", 1, 0);
        text(" ;", 1, 1);
        text("ba th 1 1 0 0;", 1, 0);
        text("bath\t1 1 0 0;", 1, 4);
        text("bath \u00e9", 1, 5);
        text("bath 1 1 0 0\u0000", 1, 12);
        text("bath 1 1 0 0", 1, 12);
        text("bath 1 1 0 0  ", 1, 14);
        text("bath", 1, 4);
        text("bath ", 1, 5);
        text("bath bath", 1, 5);
        text("bath ;", 1, 5);
        text("bath 1a 1 0 0;", 1, 6);
        text("bath 1 1 -1 0;", 1, 9);
        text("bath 1 1 0 0 0;", 1, 13);
        text("bath 1 1 0 0 00000;", 1, 13);
        text("bath 1 1 0 0 bath 1 1 0 0;", 1, 13);
        text("bath 1 1 0 0;;", 1, 13);
        text("odd 5 5;", 1, 6);
        text("bath 0 1 0 0;", 2, 5);
        text("bath 100 1 0 0;", 2, 5);
        text("bath 00001 1 0 0;", 2, 5);
        text("bath 1 0 0 0;", 2, 7);
        text("bath 1 100 0 0;", 2, 7);
        text("bath 1 1 10000 0;", 2, 9);
        text("bath 1 1 0 100;", 2, 11);
        text("bather 0 1 1 1;", 2, 7);
        text("bather 1000 1 1 1;", 2, 7);
        text("bather 1 1000 1 1;", 2, 9);
        text("bather 5 9 1000 1;", 2, 11);
        text("bather 5 9 0 1;", 2, 11);
        text("bather 5 9 5 101;", 2, 13);
        text("odd 0;", 2, 4);
        text("odd 1000;", 2, 4);
        text("odd 99999999999999999999;", 2, 4);
        text(times(2, "bath 1 1 0 0;") + " bath 1 1 0 0;", 3, 27);
        text(times(6, "bather 1 1 1 1;") + "bather", 3, 90);
        text("odd 5;odd 5;", 3, 6);
        text("bather 5 4 4 1;", 4, 9);
        text("bather 5 9 4 1;", 4, 11);
        text("bather 5 9  10 1;", 4, 12);
    }

    private static void faultsThatComeFirst() {
        about("promise 3");
        text("bath 0 x", 2, 5);
        text("bather 5 0 5 5;", 2, 9);
        text("bather 5 4 1000 x", 4, 9);
        text("bather 5 9 1000 1;", 2, 11);
        text("bath x 0", 1, 5);
        text("bathx", 1, 0);
        text(times(3, "bath 1 1 0 0;") + "x", 3, 26);
        text(times(2, "bath 1 1 0 0;") + "bathx", 1, 26);
        text("odd 1;odd 0;", 3, 6);
        text("odd 1; 0 odd 0;", 1, 7);
    }

    private static void fault() {
        about("promise 4");
        BathWater x = new BathWater();
        due("fault()", x.fault(), NONE);
        put(x, "odd 5 ");
        due("fault() before house()", x.fault(), NONE);
        due("house()", x.house(), -11);
        due("fault()", x.fault(), 6);
        due("fault() again", x.fault(), 6);
        put(x, "!");
        due("fault() till the next house()", x.fault(), 6);
        due("house()", x.house(), -11);
        due("fault()", x.fault(), 0);
        due("house() of nothing", x.house(), 0);
        due("fault()", x.fault(), NONE);
        put(x, "bath 1 1 0 0; odd 1;");
        due("house()", x.house(), 0);
        put(x, "bath 1 1 0 0");
        due("house() of the like without its end", x.house(), -11);
        due("fault() at the text's length", x.fault(), 12);
    }

    private static void told() {
        about("promise 5");
        BathWater x = with(EXACT);
        x.morning(0, 0, 1, 15);
        x.morning(0, 0, 2, 20);
        x.write(0, 0, 1, 14);
        x.feed(2, 0);
        int[] all = {2, 3, 4, 2, 1, 2, 0};
        for (int what = 0; what < all.length; what++) {
            due("told(" + what + ")", x.told(what), all[what]);
        }
        x.morning(0, 0, 1, 16);
        due("told(6) with a clash", x.told(6), 1);
        due("told(7)", x.told(7), OUTSIDE);
        due("told(-1)", x.told(-1), OUTSIDE);
        due("told(least)", x.told(LEAST), OUTSIDE);
    }

    private static void bath() {
        about("promise 6");
        BathWater x = with("bath 11 12 13 14;bath 21 22 23 24;");
        for (int what = 0; what < 4; what++) {
            due("bath(0, " + what + ")", x.bath(0, what), 11 + what);
            due("bath(1, " + what + ")", x.bath(1, what), 21 + what);
        }
        due("bath(0, 4)", x.bath(0, 4), OUTSIDE);
        due("bath(0, -1)", x.bath(0, -1), OUTSIDE);
        due("bath(2, 0)", x.bath(2, 0), UNKNOWN);
        due("bath(-1, 9)", x.bath(-1, 9), UNKNOWN);
        due("bath(most, 9)", x.bath(MOST, 9), UNKNOWN);
    }

    private static void bather() {
        about("promise 7");
        BathWater x = with("bath 1 1 0 0;bather 10 40 20 30;bather 50 80 60 70;");
        int[] first = {10, 40, 20, 30, 10, 40};
        int[] second = {50, 80, 60, 70, 50, 80};
        for (int what = 0; what < 6; what++) {
            due("bather(0, " + what + ")", x.bather(0, what), first[what]);
            due("bather(1, " + what + ")", x.bather(1, what), second[what]);
        }
        x.morning(0, 0, 3, 100);
        due("lower END", x.bather(0, 4), 20);
        due("upper END", x.bather(0, 5), 40);
        due("lower END", x.bather(1, 4), 60);
        due("upper END", x.bather(1, 5), 80);
        due("U stays", x.bather(0, 0), 10);
        due("V stays", x.bather(1, 1), 80);
        due("bather(1, 6)", x.bather(1, 6), OUTSIDE);
        due("bather(1, -1)", x.bather(1, -1), OUTSIDE);
        due("bather(2, 0)", x.bather(2, 0), UNKNOWN);
        due("bather(-1, 6)", x.bather(-1, 6), UNKNOWN);
    }

    private static void height() {
        about("promise 8");
        BathWater x = with("bath 4 2 40 3;bath 1 1 0 0;bather 1 9 7 1;bather 1 99 25 1;");
        due("water alone", x.height(0, 0, 0), 5);
        due("cut", x.height(0, 0, 1), 5);
        due("both", x.height(0, 0, 3), 9);
        due("a leak", x.height(0, 1, 3), 8);
        due("nearly empty", x.height(0, 13, 3), 4);
        due("empty", x.height(0, 14, 3), 4);
        due("long empty", x.height(0, 99, 3), 4);
        due("another bath", x.height(1, 99, 3), 32);
        due("height(2, 0, 0)", x.height(2, 0, 0), UNKNOWN);
        due("height(0, 0, 4)", x.height(0, 0, 4), UNKNOWN);
        due("height(0, 0, -1)", x.height(0, 0, -1), UNKNOWN);
        due("height(0, 100, 0)", x.height(0, 100, 0), OUTSIDE);
        due("height(0, -1, 0)", x.height(0, -1, 0), OUTSIDE);
        due("unknown ahead of outside", x.height(0, -1, 8), UNKNOWN);
    }

    private static void span() {
        about("promise 9");
        BathWater x = with("bath 4 2 43 3;bath 99 99 0 0;");
        due("the least", x.span(0, 0, 9, 0), 29);
        due("the greatest", x.span(0, 0, 9, 1), 36);
        due("from 0 on", x.span(0, 0, 5, 0), 0);
        due("partly below 0", x.span(0, 0, 5, 1), 4);
        due("none", x.span(0, 0, 4, 0), NONE);
        due("none", x.span(0, 0, 4, 1), NONE);
        due("water gone", x.span(0, 15, 0, 0), 0);
        due("water gone", x.span(0, 15, 0, 1), 7);
        due("0 alone", x.span(0, 12, 0, 1), 0);
        due("highest", x.span(1, 0, 99999, 0), 980090199);
        due("highest", x.span(1, 0, 99999, 1), 980099999);
        due("span(2, 0, 0, 0)", x.span(2, 0, 0, 0), UNKNOWN);
        due("height 100000", x.span(0, 0, 100000, 0), OUTSIDE);
        due("height -1", x.span(0, 0, -1, 0), OUTSIDE);
        due("hour 100", x.span(0, 100, 0, 0), OUTSIDE);
        due("hour -1", x.span(0, -1, 0, 0), OUTSIDE);
        due("what 2", x.span(0, 0, 0, 2), OUTSIDE);
        due("what -1", x.span(0, 0, 0, -1), OUTSIDE);
        due("unknown ahead of outside", x.span(-1, -1, -1, -1), UNKNOWN);
    }

    private static void morning() {
        about("promise 10");
        BathWater x = with(EXACT);
        due("no bath", x.morning(2, 0, 0, 10), UNKNOWN);
        due("no such set", x.morning(0, 0, 8, 10), UNKNOWN);
        due("no such set", x.morning(0, 0, -1, 10), UNKNOWN);
        due("hour 100", x.morning(0, 100, 0, 10), OUTSIDE);
        due("hour -1", x.morning(0, -1, 0, 10), OUTSIDE);
        due("height 100000", x.morning(0, 0, 0, 100000), OUTSIDE);
        due("height -1", x.morning(0, 0, 0, -1), OUTSIDE);
        due("unknown ahead of outside", x.morning(0, 100, 8, 10), UNKNOWN);
        due("told(3)", x.told(3), 0);
        for (int i = 1; i <= 12; i++) {
            due("a morning", x.morning(0, 0, 1, 15), i);
        }
        due("full", x.morning(0, 0, 1, 15), FULL);
        due("outside ahead of full", x.morning(0, 100, 1, 15), OUTSIDE);
        due("unknown ahead of full", x.morning(9, 0, 1, 15), UNKNOWN);
        due("told(3)", x.told(3), 12);
        due("highest", with(EXACT).morning(0, 99, 7, 99999), 1);
    }

    private static void narrowed() {
        about("promise 10");
        BathWater x = with("bath 10 1 0 0;bather 1 99 42 0;bather 1 99 17 0;bather 1 99 8 0;");
        x.morning(0, 0, 3, 5);
        due("50 to 59 of two", x.bather(0, 5), 58);
        x.morning(0, 0, 1, 4);
        due("40 to 49", x.bather(0, 4), 40);
        due("40 to 49", x.bather(0, 5), 49);
        due("the first morning again", x.bather(1, 4), 1);
        due("the first morning again", x.bather(1, 5), 19);
        x.morning(0, 0, 6, 9);
        due("a chain", x.bather(2, 4), 71);
        due("a chain", x.bather(2, 5), 98);
        due("no clash", x.told(6), 0);
        x.morning(0, 0, 4, 7);
        due("back along the chain", x.bather(1, 4), 11);
        due("back along the chain", x.bather(0, 5), 48);
        x.morning(0, 0, 4, 6);
        due("a clash", x.told(6), 1);
        due("ends as at first", x.bather(0, 4), 1);
        due("ends as at first", x.bather(0, 5), 99);
        BathWater none = with("bath 10 1 30 0;bather 1 99 42 0;");
        none.morning(0, 0, 0, 3);
        due("nobody, true", none.told(6), 0);
        none.morning(0, 0, 0, 4);
        due("nobody, more than the water", none.told(6), 1);
        none.forget();
        none.morning(0, 0, 1, 2);
        due("below the water", none.told(6), 1);
        BathWater three = with("bath 1 1 0 0;bather 1 999 1 0;bather 1 999 1 0;bather 1 999 1 0;");
        three.morning(0, 0, 7, 100);
        three.morning(0, 0, 7, 101);
        due("three of whom ends tell no clash", three.told(6), 0);
        due("their ends", three.bather(2, 5), 98);
        BathWater two = with("bath 1 1 0 0;bather 1 999 1 0;bather 1 999 1 0;");
        two.morning(0, 0, 3, 1000);
        two.morning(0, 0, 3, 1001);
        due("two of whom the last round tells a clash", two.told(6), 1);
    }

    private static void strike() {
        about("promise 11");
        BathWater x = with("bath 1 1 0 0;bather 1 99 1 0;bather 1 99 1 0;bather 1 99 1 0;");
        due("none", x.strike(0), UNKNOWN);
        x.morning(0, 0, 1, 10);
        x.morning(0, 0, 2, 20);
        x.morning(0, 0, 4, 30);
        due("strike(3)", x.strike(3), UNKNOWN);
        due("strike(-1)", x.strike(-1), UNKNOWN);
        due("strike(0)", x.strike(0), 2);
        due("ends widen again", x.bather(0, 5), 99);
        due("those behind stay", x.bather(1, 5), 20);
        due("strike(1)", x.strike(1), 1);
        due("the last is told no more", x.bather(2, 5), 99);
        due("the first is", x.bather(1, 4), 20);
        due("strike(1)", x.strike(1), UNKNOWN);
        due("strike(0)", x.strike(0), 0);
        due("told(3)", x.told(3), 0);
    }

    private static void wrong() {
        about("promise 12");
        BathWater x = with("bath 1 1 0 0;bather 1 99 1 0;bather 1 99 1 0;");
        x.morning(0, 0, 1, 10);
        due("no clash", x.wrong(), 0);
        x.morning(0, 0, 1, 11);
        due("of like ones the least", x.wrong(), 1);
        x.morning(0, 0, 1, 10);
        due("the fewest", x.wrong(), 2);
        x.morning(0, 0, 0, 1);
        due("one that clashes alone", x.wrong(), 8 | 2);
        x.morning(0, 0, 3, 30);
        due("one that clashes with none", x.wrong(), 8 | 2);
        x.morning(0, 0, 2, 19);
        due("of three that are like, the least", x.wrong(), 1 | 4 | 8);
        x.morning(0, 0, 2, 20);
        due("two that bear the sum out", x.wrong(), 2 | 8 | 32);
        due("ends as at first", x.bather(1, 5), 99);
        x.strike(5);
        x.strike(3);
        due("behind strike", x.wrong(), 2);
        x.strike(1);
        due("no clash any more", x.wrong(), 0);
        BathWater all = with("bath 1 1 7 0;bather 1 99 1 0;bather 1 99 1 0;");
        for (int i = 0; i < 12; i++) {
            due("wrong() by the way", all.wrong(), Math.max(0, (1 << i) / 2 - (i > 0 ? 1 : 0)));
            all.morning(0, 0, 1, 10 + i);
        }
        due("all but the last", all.wrong(), 2047);
        all.strike(11);
        all.morning(0, 0, 0, 6);
        due("all but the last that can be", all.wrong(), 1023 | 2048);
    }

    private static void canBe() {
        about("promise 13");
        BathWater x = with("bath 1 1 10 0;bather 5 7 5 0;bather 10 12 10 0;bather 16 16 16 0;");
        due("how many", x.canBe(0, 0, 26, -1), 2);
        due("0", x.canBe(0, 0, 26, 0), 3);
        due("1", x.canBe(0, 0, 26, 1), 4);
        due("2", x.canBe(0, 0, 26, 2), NONE);
        due("-2", x.canBe(0, 0, 26, -2), NONE);
        due("nobody", x.canBe(0, 0, 10, -1), 1);
        due("nobody", x.canBe(0, 0, 10, 0), 0);
        due("below the water", x.canBe(0, 0, 9, -1), 0);
        due("an upper END", x.canBe(0, 0, 29, 0), 3);
        due("between", x.canBe(0, 0, 30, -1), 0);
        due("the greatest", x.canBe(0, 0, 45, 0), 7);
        due("more", x.canBe(0, 0, 46, -1), 0);
        x.morning(0, 0, 1, 16);
        due("narrowed", x.canBe(0, 0, 25, 0), NONE);
        x.morning(0, 0, 1, 17);
        due("with a clash as at first", x.canBe(0, 0, 25, 0), 3);
        BathWater coarse = with("bath 10 1 4 1;bather 12 14 13 0;bather 1 30 2 0;");
        due("ends within a finger", coarse.canBe(0, 0, 1, -1), 3);
        due("ends within a finger", coarse.canBe(0, 0, 1, 0), 1);
        due("at another hour", coarse.canBe(0, 4, 0, -1), 2);
        due("at another hour", coarse.canBe(0, 4, 0, 1), 2);
        due("canBe(1, ..)", x.canBe(1, 0, 25, 0), UNKNOWN);
        due("hour", x.canBe(0, 100, 25, 0), OUTSIDE);
        due("hour", x.canBe(0, -1, 25, 0), OUTSIDE);
        due("height", x.canBe(0, 0, 100000, 0), OUTSIDE);
        due("height", x.canBe(0, 0, -1, -2), OUTSIDE);
        due("unknown ahead of outside", x.canBe(-1, 100, 25, 0), UNKNOWN);
    }

    private static void likely() {
        about("promise 14");
        BathWater x = with("bath 1 1 0 0;bather 5 5 5 50;bather 10 10 10 20;bather 15 15 15 80;bather 9 9 9 0;");
        due("in the likelier", x.likely(0, 0, 15, 2), 941176);
        due("in the other", x.likely(0, 0, 15, 0), 58823);
        due("in none", x.likely(0, 0, 15, 3), 0);
        due("in all", x.likely(0, 0, 30, 1), 1000000);
        due("by a height that no set has", x.likely(0, 0, 31, 1), 0);
        due("by one that only sets of no odds have", x.likely(0, 0, 9, 3), 0);
        due("with them", x.likely(0, 0, 24, 3), 0);
        BathWater coarse = with("bath 10 1 4 1;bather 3 5 4 25;bather 12 14 13 50;");
        due("he or nobody", coarse.likely(0, 0, 0, 0), 250000);
        due("the other, with or without him", coarse.likely(0, 0, 1, 1), 1000000);
        due("the other, with or without him", coarse.likely(0, 0, 1, 0), 250000);
        BathWater rare = with("bath 1 1 0 0;" + times(4, "bather 5 5 5 1;") + "bather 9 9 9 10;bather 50 50 50 0;");
        due("one of a billion", rare.likely(0, 0, 29, 4), 1000000);
        due("likely(1, ..)", x.likely(1, 0, 15, 0), UNKNOWN);
        due("no bather", x.likely(0, 0, 15, 4), UNKNOWN);
        due("no bather", x.likely(0, 0, 15, -1), UNKNOWN);
        due("hour", x.likely(0, 100, 15, 0), OUTSIDE);
        due("height", x.likely(0, 0, 100000, 0), OUTSIDE);
        due("height", x.likely(0, 0, -1, 0), OUTSIDE);
        due("unknown ahead of outside", x.likely(0, -1, 15, 4), UNKNOWN);
    }

    private static void odds() {
        about("promise 15");
        BathWater x = with(times(6, "bather 1 1 1 33;"));
        due("all, cut bather by bather", x.odds(63), 1291467);
        due("none, cut bather by bather", x.odds(0), 90458381);
        due("odds(64)", x.odds(64), UNKNOWN);
        due("odds(-1)", x.odds(-1), UNKNOWN);
        BathWater sure = with(EXACT);
        due("who always comes, who never does", sure.odds(2), 500000000);
        due("without who always comes", sure.odds(1), 0);
        due("with who never comes", sure.odds(6), 0);
    }

    private static void tells() {
        about("promise 16");
        BathWater x = with(EXACT);
        due("nothing is odd", x.tells(0, 3, 0), 25);
        due("0 is more", x.tells(0, 3, 1), 29);
        due("1 is more", x.tells(0, 3, 2), 29);
        due("2, who is not in it", x.tells(0, 3, 3), 25);
        due("0 holds the rail", x.tells(0, 3, 7), 20);
        due("1 holds the rail", x.tells(0, 3, 8), 15);
        due("2, who is not in it", x.tells(0, 3, 9), 25);
        due("by fingers", x.tells(1, 7, 0), 4);
        due("by fingers", x.tells(1, 4, 3), 3);
        due("an empty set", x.tells(0, 0, 0), UNKNOWN);
        due("no such set", x.tells(0, 8, 0), UNKNOWN);
        due("no such set", x.tells(0, -1, 0), UNKNOWN);
        due("no bath", x.tells(2, 1, 0), UNKNOWN);
        due("no case", x.tells(0, 1, 4), UNKNOWN);
        due("no case", x.tells(0, 1, 6), UNKNOWN);
        due("no case", x.tells(0, 1, 10), UNKNOWN);
        due("no case", x.tells(0, 1, -1), UNKNOWN);
        due("no case", x.tells(0, 1, 13), UNKNOWN);
    }

    private static void alike() {
        about("promise 17");
        BathWater x = with("bath 10 1 0 0;odd 5;bather 1 9 2 0;bather 1 99 21 0;bather 1 9 1 0;");
        due("0 is told by no finger more", x.alike(1), 1 | 2 | 4 | 8 | 128 | 512);
        due("nor is 2", x.alike(9), 1 | 2 | 4 | 8 | 128 | 512);
        due("1 at the rail is", x.alike(8), 256);
        BathWater nearly = with("bath 10 1 0 0;odd 5;bather 1 9 4 0;bather 1 99 25 0;bather 1 9 1 0;");
        due("29 and 5", nearly.alike(1), 2);
        due("30 less 4, 30 less 1", nearly.alike(7), 128 | 512);
        due("30", nearly.alike(0), 1);
        due("alike(4)", x.alike(4), UNKNOWN);
        due("alike(10)", x.alike(10), UNKNOWN);
        due("alike(-1)", x.alike(-1), UNKNOWN);
        due("alike(13)", x.alike(13), UNKNOWN);
        due("all are told", with(EXACT).alike(0), 1);
        due("no bath, no try", with("bather 1 9 4 0;").alike(7), 1 | 2 | 128);
        BathWater six = with("bath 1 1 0 0;" + times(6, "bather 1 9 4 0;"));
        due("case 12", six.alike(12), 4096);
        due("case 6", six.alike(6), 64);
    }

    private static void needed() {
        about("promise 18");
        BathWater x = with("bath 1 1 0 0;odd 5;bather 1 99 10 0;bather 1 99 20 0;");
        due("none", x.needed(0, 0), 0);
        due("none, no bath", x.needed(0, 1), NONE);
        due("one", x.needed(256, 0), 0);
        due("one, no set", x.needed(256, 2), NONE);
        due("two", x.needed(1 | 2, 0), 1);
        due("two, the set", x.needed(1 | 2, 2), 1);
        due("two others", x.needed(1 | 4, 2), 2);
        due("three", x.needed(1 | 2 | 4, 0), 2);
        due("three, the set", x.needed(1 | 2 | 4, 2), 1);
        due("three by one try", x.needed(1 | 2 | 128, 0), 1);
        due("all", x.needed(391, 0), 2);
        due("all, the bath", x.needed(391, 1), 0);
        due("a case that there is not", x.needed(8, 0), UNKNOWN);
        due("a case that there is not", x.needed(512, 0), UNKNOWN);
        due("a case that there is not", x.needed(8192, 0), UNKNOWN);
        due("a case that there is not", x.needed(-1, 0), UNKNOWN);
        due("what 3", x.needed(1, 3), OUTSIDE);
        due("what -1", x.needed(1, -1), OUTSIDE);
        due("unknown ahead of outside", x.needed(8, 3), UNKNOWN);
        due("at the rail, by one try", x.needed(1 | 128 | 256, 0), 1);
        put(x, "bath 10 1 9 0;bather 1 9 1 0;bather 1 9 1 0;");
        due("another house", x.house(), 2);
        due("at the rail, by two", x.needed(1 | 128 | 256, 0), 2);
        put(x, "bath 10 1 0 0;odd 5;bather 1 9 5 0;bather 1 99 10 0;");
        due("a third house", x.house(), 2);
        due("two are parted as before", x.needed(1 | 2, 0), 1);
        due("two are parted by both together alone", x.needed(1 | 4, 2), 3);
        due("two are alike now", x.needed(1 | 128, 0), 0);
        due("two more", x.needed(2 | 4, 0), 1);
        due("of three two are alike", x.needed(1 | 2 | 128, 0), 1);
        due("all", x.needed(391, 0), 2);
        due("all, the set", x.needed(391, 2), 1);
        BathWater six = with("bath 60 1 0 0;odd 5;bather 1 10 10 0;" + times(5, "bather 1 9 9 0;"));
        due("all six together tell it", six.needed(1 | 64, 0), 1);
        due("all six together", six.needed(1 | 64, 2), 63);
        BathWater blunt = with("bath 99 99 0 0;odd 5;bather 1 99 10 0;bather 1 99 20 0;");
        due("all are alike", blunt.needed(391, 0), 0);
        due("all are alike, no set", blunt.needed(391, 2), NONE);
        due("no bath", with("bather 1 9 4 0;").needed(1 | 2 | 128, 0), 0);
    }

    private static void neededFirst() {
        about("promise 18");
        BathWater x = with("bath 99 99 0 0;bath 1 1 0 0;odd 1;" + "bather 1 9 1 0;bather 1 9 2 0;bather 1 9 4 0;bather 1 9 8 0;");
        due("the bath that tells", x.needed(1 | 2, 1), 1);
        due("which of four is more", x.needed(2 | 4 | 8 | 16, 0), 2);
        due("two of them first", x.needed(2 | 4 | 8 | 16, 2), 3);
        due("or nobody", x.needed(1 | 2 | 4 | 8 | 16, 0), 3);
        due("or nobody: one will do first", x.needed(1 | 2 | 4 | 8 | 16, 2), 1);
        due("who holds the rail", x.needed(128 | 256 | 512 | 1024, 0), 1);
        due("three of them tell all four", x.needed(128 | 256 | 512 | 1024, 2), 7);
        BathWater merged = with("bath 10 1 0 0;odd 5;bather 1 9 2 0;bather 1 99 21 0;bather 1 9 1 0;");
        due("alike ones are one", merged.needed(1 | 2 | 4 | 8 | 128 | 512, 0), 0);
        due("they and another", merged.needed(2 | 8 | 256, 0), 1);
        due("they and another, the set", merged.needed(2 | 8 | 256, 2), 2);
    }

    private static void away() {
        about("promise 19");
        due("by whom alone it shows", with("bath 10 1 0 0;bather 1 9 5 0;bather 1 99 10 0;").away(), 0);
        due("the second", with("bath 10 1 0 0;bather 1 99 10 0;bather 1 9 5 0;").away(), 1);
        due("each shows alone", with(EXACT).away(), NONE);
        due("only two of three cases need 0", with(
            "bath 10 1 0 0;odd 3;bather 1 9 7 0;bather 1 9 4 0;bather 1 9 8 0;").away(), 0);
        due("one bather has no two cases", with("bath 1 1 0 0;bather 1 9 5 0;").away(), NONE);
        due("what shows never is not lost", with("bath 99 99 0 0;bather 1 9 5 0;bather 1 9 5 0;").away(), NONE);
        due("another bath tells it too", with("bath 10 1 0 0;bath 10 1 5 0;bather 1 99 5 0;bather 1 99 10 0;").away(), NONE);
        due("no bath", with("bather 1 9 5 0;bather 1 9 5 0;").away(), NONE);
        due("cases at the rail do not count", with("bath 50 1 0 0;odd 1;bather 1 99 30 0;bather 1 99 20 0;").away(), NONE);
    }

    private static void called() {
        about("promise 20");
        BathWater x = with("bath 5 2 0 0;bath 2 2 7 1;bather 1 100 50 1;bather 10 20 15 1;bather 30 30 30 1;");
        due("above 0", x.called(0, 0), 2);
        due("above 0", x.called(0, 1), 3);
        due("above 9", x.called(9, 0), 2);
        due("above 10", x.called(10, 0), 1);
        due("above 10", x.called(10, 1), 10);
        due("above 98", x.called(98, 0), 1);
        due("above 99", x.called(99, 0), 0);
        due("above 99", x.called(99, 1), 99);
        x.morning(0, 0, 1, 5);
        due("by narrowed ends", x.called(9, 0), 1);
        due("by narrowed ends", x.called(9, 1), 9);
        due("g 1000", x.called(1000, 0), OUTSIDE);
        due("g -1", x.called(-1, 0), OUTSIDE);
        due("what 2", x.called(0, 2), OUTSIDE);
        due("what -1", x.called(0, -1), OUTSIDE);
        due("g 999", x.called(999, 0), 0);
        BathWater like = with("bath 4 1 0 0;bath 2 2 3 0;bather 50 100 50 1;");
        due("of like baths the lesser", like.called(0, 1), 1);
        BathWater untrue = with("bath 4 1 0 0;bather 1 100 50 1;");
        untrue.morning(0, 0, 1, 2);
        due("far from the truth", untrue.called(0, 0), 1);
        due("far from the truth, 0 at least", untrue.called(0, 1), 0);
        untrue.morning(0, 0, 1, 3);
        due("a clash: by ends as at first", untrue.called(98, 1), 3);
        BathWater leaking = with("bath 2 2 7 9;bather 49 100 50 1;");
        due("at hour 0", leaking.called(0, 1), 3);
        due("no baths", with("bather 1 9 5 0;").called(0, 0), NOT);
        due("outside ahead of not", with("bather 1 9 5 0;").called(1000, 0), OUTSIDE);
        due("outside ahead of not", with("bather 1 9 5 0;").called(0, 2), OUTSIDE);
        due("no bathers", with("bath 1 1 1 1;").called(0, 1), 0);
    }

    private static void write() {
        about("promise 21");
        BathWater x = with(EXACT);
        due("no bath", x.write(2, 0, 0, 10), UNKNOWN);
        due("no such set", x.write(0, 0, 8, 10), UNKNOWN);
        due("no such set", x.write(0, 0, -8, 10), UNKNOWN);
        due("hour 100", x.write(0, 100, 0, 10), OUTSIDE);
        due("hour -1", x.write(0, -1, 0, 10), OUTSIDE);
        due("height 100000", x.write(0, 0, 0, 100000), OUTSIDE);
        due("height -1", x.write(0, 0, 0, -1), OUTSIDE);
        due("unknown ahead of outside", x.write(0, 100, 8, 10), UNKNOWN);
        for (int i = 1; i <= 30; i++) {
            due("an entry", x.write(1, 99, 7, 99999), i);
        }
        due("full", x.write(0, 0, 0, 10), FULL);
        due("outside ahead of full", x.write(0, 0, 0, -1), OUTSIDE);
        due("unknown ahead of full", x.write(2, 0, 0, 10), UNKNOWN);
        due("told(4)", x.told(4), 30);
        due("no mornings of it", x.told(3), 0);
    }

    private static void tear() {
        about("promise 22");
        BathWater x = with(EXACT);
        due("none", x.tear(), 0);
        x.write(0, 0, 1, 10);
        x.write(0, 0, 1, 15);
        x.morning(0, 0, 1, 15);
        due("two", x.tear(), 2);
        due("told(4)", x.told(4), 0);
        due("judge()", x.judge(), NONE);
        due("mornings stay", x.told(3), 1);
        due("an entry again", x.write(0, 0, 1, 15), 1);
        due("judge()", x.judge(), NONE);
    }

    private static void judge() {
        about("promise 23");
        BathWater x = with(EXACT);
        due("empty", x.judge(), NONE);
        x.write(0, 0, 3, 25);
        x.write(0, 4, 3, 17);
        x.write(0, 5, 3, 15);
        x.write(1, 0, 7, 4);
        due("all are true", x.judge(), NONE);
        x.write(1, 0, 7, 5);
        due("one is not", x.judge(), 4);
        x.write(0, 0, 0, 9);
        due("the first", x.judge(), 4);
        x.tear();
        x.write(0, 0, 0, 9);
        due("the first of all", x.judge(), 0);
        x.tear();
        x.write(1, 0, 7, 4);
        due("in the other bath", x.judge(), NONE);
    }

    private static void drift() {
        about("promise 24");
        BathWater x = with("bath 1 1 10 3;bather 1 100 5 1;bather 1 100 10 68;bather 20 20 20 89;");
        due("a morning", x.drift(0, 1), 1);
        due("0 and 2 are in", x.bather(0, 4), 5);
        due("0 and 2 are in", x.bather(0, 5), 5);
        due("1 is not, by a draw of 68", x.bather(1, 5), 100);
        due("another", x.drift(0, 1), 2);
        due("1 and 2 are in", x.bather(1, 4), 10);
        due("1 and 2 are in", x.bather(1, 5), 10);
        x.strike(0);
        due("the second alone", x.bather(0, 5), 100);
        due("the seed behind eight draws", x.seed(2147483647), 1293799192);
        due("another morning", x.drift(0, 1), 2);
        due("the seed behind twelve draws", x.seed(0), 1751031067);
        due("outside", x.drift(0, 0), OUTSIDE);
        due("outside", x.drift(0, 31), OUTSIDE);
        due("outside", x.drift(0, -1), OUTSIDE);
        due("no bath", x.drift(1, 1), UNKNOWN);
        due("unknown ahead of outside", x.drift(-1, 31), UNKNOWN);
        due("what is refused draws nothing", x.seed(0), 0);
        due("as many as there is room for", x.drift(0, 30), 12);
        long seed = 0;
        for (int i = 0; i < 30 * 4; i++) {
            seed = (seed * 1103515245L + 12345L) % (1L << 31);
        }
        due("draws without room too", x.seed(0), (int) seed);
        due("full is no refusal", x.drift(0, 1), 12);
        BathWater hours = with("bath 10 1 9 3;bather 1 100 55 100;");
        hours.drift(0, 1);
        due("at hour 0", hours.bather(0, 4), 51);
        due("at hour 0", hours.bather(0, 5), 60);
        hours.drift(0, 1);
        due("at hour 1", hours.bather(0, 4), 54);
        due("at hour 1", hours.bather(0, 5), 60);
        hours.drift(0, 1);
        due("at hour 3", hours.bather(0, 5), 59);
        BathWater alone = with("bath 1 1 10 3;bather 1 9 5 100;bather 1 9 5 0;");
        alone.drift(0, 12);
        due("who comes always is told", alone.bather(0, 5), 5);
        due("who comes never is not", alone.bather(1, 5), 9);
        due("true mornings do not clash", alone.told(6), 0);
    }

    private static void forget() {
        about("promise 25");
        BathWater x = with(EXACT);
        due("none", x.forget(), 0);
        x.morning(0, 0, 1, 15);
        x.morning(0, 0, 1, 16);
        x.write(0, 0, 1, 15);
        x.seed(8);
        due("two", x.forget(), 2);
        due("told(3)", x.told(3), 0);
        due("no clash", x.told(6), 0);
        due("wrong()", x.wrong(), 0);
        due("ends as at first", x.bather(0, 5), 100);
        due("the book stays", x.told(4), 1);
        due("the seed stays", x.seed(0), 8);
        due("a morning again", x.morning(0, 0, 1, 15), 1);
    }

    private static void seed() {
        about("promise 26");
        BathWater x = new BathWater();
        due("0 at first", x.seed(5), 0);
        due("as it was set", x.seed(MOST), 5);
        due("outside", x.seed(-1), OUTSIDE);
        due("outside", x.seed(LEAST), OUTSIDE);
        due("the greatest", x.seed(0), MOST);
        due("0", x.seed(1), 0);
    }

    private static void keep() {
        about("promise 27");
        BathWater x = with(EXACT);
        due("keep(2)", x.keep(2), UNKNOWN);
        due("keep(-1)", x.keep(-1), UNKNOWN);
        due("keep(most)", x.keep(MOST), UNKNOWN);
        x.morning(0, 0, 1, 15);
        due("keep(0)", x.keep(0), 1);
        x.morning(0, 0, 2, 20);
        due("keep(1)", x.keep(1), 1);
        x.forget();
        x.goBack(0);
        due("image 0", x.told(3), 1);
        x.goBack(1);
        due("image 1", x.told(3), 2);
        x.forget();
        due("keep(1) anew", x.keep(1), 1);
        x.goBack(0);
        due("image 0 is still so", x.told(3), 1);
        x.goBack(1);
        due("image 1 is new", x.told(3), 0);
    }

    private static void goBack() {
        about("promise 28");
        BathWater x = with(EXACT);
        due("goBack(2)", x.goBack(2), UNKNOWN);
        due("goBack(-1)", x.goBack(-1), UNKNOWN);
        due("goBack(0)", x.goBack(0), NOT);
        x.seed(41);
        x.morning(0, 0, 1, 15);
        x.morning(0, 0, 2, 20);
        x.keep(1);
        due("goBack(0)", x.goBack(0), NOT);
        x.seed(42);
        x.strike(0);
        x.morning(0, 0, 2, 21);
        x.write(0, 0, 1, 9);
        x.feed(1, ' ');
        due("a clash meanwhile", x.told(6), 1);
        due("goBack(1)", x.goBack(1), 1);
        due("mornings", x.told(3), 2);
        due("no clash", x.told(6), 0);
        due("the ends by them", x.bather(0, 4), 5);
        due("wrong()", x.wrong(), 0);
        due("the seed", x.seed(0), 41);
        due("the book is as it is", x.told(4), 1);
        due("the text is as it is", x.told(5), 1);
        x.morning(0, 0, 0, 9);
        due("goBack(1) again", x.goBack(1), 1);
        due("the image has not changed with what is so", x.told(3), 2);
        due("the seed again", x.seed(0), 41);
        x.forget();
        x.morning(1, 9, 1, 4);
        due("in the other bath", x.bather(0, 4), 37);
        x.keep(0);
        x.forget();
        x.morning(0, 0, 1, 15);
        x.goBack(0);
        due("in the other bath again", x.bather(0, 4), 37);
        due("in the other bath again", x.bather(0, 5), 46);
    }
}
