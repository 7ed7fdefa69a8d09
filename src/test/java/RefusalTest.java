import java.util.List;

/** Each call that is refused: by which REFUSAL, which of several comes first, and that it changes nothing. */
public final class RefusalTest extends Asker {
    private static final int[] FAR = {LEAST, LEAST + 1, -2, -1, MOST - 1, MOST};
    /** What there are: 2 BATHS, 6 BATHERS. */
    private static final String HOUSE = "bath 4 2 40 3;bath 9 5 7 0;odd 30;bather 20 60 33 90;bather 40 50 45 50;"
        + "bather 10 90 60 10;bather 5 15 9 99;bather 30 200 100 50;bather 70 75 72 25;";
    private static final String OTHER = "bath 1 1 1 1;bather 7 9 8 50;bather 100 900 500 1;odd 3;";

    private interface Call {
        int on(BathWater x);
    }

    public static void main(String[] args) {
        unknownBaths();
        unknownBathers();
        unknownSets();
        unknownMornings();
        unknownImages();
        unknownCases();
        outsideHours();
        outsideHeights();
        outsideOthers();
        outsideFeeds();
        unknownAheadOfOutside();
        unknownAheadOfNot();
        outsideAheadOfNot();
        full();
        notKept();
        faultsChangeNothing();
        nothingIsThere();
        finish();
    }

    // ---- what the calls are refused by: little told, and all that there is room for

    private static BathWater little() {
        BathWater x = with(HOUSE);
        x.seed(77);
        x.morning(0, 0, 7, 23);
        x.keep(0);
        x.morning(0, 0, 3, 14);
        x.morning(1, 2, 63, 8);
        x.write(0, 0, 7, 22);
        x.write(0, 1, 7, 21);
        x.write(0, 1, 7, 20);
        x.seed(78);
        put(x, OTHER.substring(0, OTHER.length() - 5));
        return x;
    }

    private static BathWater filled() {
        BathWater x = with(HOUSE);
        x.seed(MOST);
        x.drift(1, 5);
        x.keep(1);
        x.drift(0, 6);
        x.seed(MOST);
        x.morning(0, 0, 32, 3);
        x.keep(0);
        for (int i = 0; i < 30; i++) {
            x.write(i % 2, i, i, x.height(i % 2, i, i) + i / 20);
        }
        put(x, OTHER + times(400 - OTHER.length(), " "));
        return x;
    }

    private static void refused(String name, Call call, int due) {
        refusedOn(little(), little(), name, call, due);
        refusedOn(filled(), filled(), "all being full, " + name, call, due);
    }

    private static void refusedOn(BathWater x, BathWater twin, String name, Call call, int due) {
        due(name, call.on(x), due);
        same(name, x, twin);
    }

    private static void same(String name, BathWater x, BathWater twin) {
        List<Integer> is = View.of(x);
        List<Integer> was = View.of(twin);
        due("how much is told behind " + name, is.size(), was.size());
        for (int i = 0; i < is.size() && i < was.size(); i++) {
            due("what is told, " + i + ", behind " + name, is.get(i), was.get(i));
        }
    }

    // ---- UNKNOWN

    private static void unknownBath(int b) {
        refused("bath(" + b + ", 0)", x -> x.bath(b, 0), UNKNOWN);
        refused("height(" + b + ", 0, 0)", x -> x.height(b, 0, 0), UNKNOWN);
        refused("span(" + b + ", 0, 9, 0)", x -> x.span(b, 0, 9, 0), UNKNOWN);
        refused("morning(" + b + ", 0, 1, 9)", x -> x.morning(b, 0, 1, 9), UNKNOWN);
        refused("canBe(" + b + ", 0, 9, 0)", x -> x.canBe(b, 0, 9, 0), UNKNOWN);
        refused("likely(" + b + ", 0, 9, 0)", x -> x.likely(b, 0, 9, 0), UNKNOWN);
        refused("tells(" + b + ", 1, 0)", x -> x.tells(b, 1, 0), UNKNOWN);
        refused("write(" + b + ", 0, 1, 9)", x -> x.write(b, 0, 1, 9), UNKNOWN);
        refused("drift(" + b + ", 1)", x -> x.drift(b, 1), UNKNOWN);
    }

    private static void unknownBaths() {
        about("UNKNOWN (a BATH that there is not)");
        unknownBath(2);
        unknownBath(3);
        for (int b : FAR) {
            unknownBath(b);
        }
    }

    private static void unknownBather(int k) {
        refused("bather(" + k + ", 0)", x -> x.bather(k, 0), UNKNOWN);
        refused("bather(" + k + ", 5)", x -> x.bather(k, 5), UNKNOWN);
        refused("likely(0, 0, 9, " + k + ")", x -> x.likely(0, 0, 9, k), UNKNOWN);
    }

    private static void unknownBathers() {
        about("UNKNOWN (a BATHER that there is not)");
        unknownBather(6);
        unknownBather(7);
        for (int k : FAR) {
            unknownBather(k);
        }
    }

    private static void unknownSet(int set) {
        refused("height(0, 0, " + set + ")", x -> x.height(0, 0, set), UNKNOWN);
        refused("morning(0, 0, " + set + ", 9)", x -> x.morning(0, 0, set, 9), UNKNOWN);
        refused("odds(" + set + ")", x -> x.odds(set), UNKNOWN);
        refused("tells(0, " + set + ", 0)", x -> x.tells(0, set, 0), UNKNOWN);
        refused("write(0, 0, " + set + ", 9)", x -> x.write(0, 0, set, 9), UNKNOWN);
    }

    private static void unknownSets() {
        about("UNKNOWN (bits of such)");
        unknownSet(64);
        unknownSet(65);
        unknownSet(127);
        unknownSet(-64);
        for (int set : FAR) {
            unknownSet(set);
        }
        about("16: UNKNOWN (also an empty SET)");
        refused("tells(0, 0, 0)", x -> x.tells(0, 0, 0), UNKNOWN);
    }

    private static void unknownMornings() {
        about("UNKNOWN (a MORNING that there is not)");
        for (int i : FAR) {
            refused("strike(" + i + ")", x -> x.strike(i), UNKNOWN);
        }
        refusedOn(little(), little(), "strike(3) of 3", x -> x.strike(3), UNKNOWN);
        refusedOn(filled(), filled(), "strike(12) of 12", x -> x.strike(12), UNKNOWN);
    }

    private static void unknownImages() {
        about("UNKNOWN (an IMAGE that there is not)");
        for (int i : new int[] {LEAST, -2, -1, 2, 3, MOST}) {
            refused("keep(" + i + ")", x -> x.keep(i), UNKNOWN);
            refused("goBack(" + i + ")", x -> x.goBack(i), UNKNOWN);
        }
    }

    private static void unknownCases() {
        about("UNKNOWN (a case that there is not)");
        for (int c : new int[] {LEAST, -2, -1, 13, 14, 32, MOST}) {
            refused("tells(0, 1, " + c + ")", x -> x.tells(0, 1, c), UNKNOWN);
            refused("alike(" + c + ")", x -> x.alike(c), UNKNOWN);
        }
        for (int cases : new int[] {LEAST, -8192, -1, 8192, 8193, 16383, MOST}) {
            refused("needed(" + cases + ", 0)", x -> x.needed(cases, 0), UNKNOWN);
        }
    }

    // ---- OUTSIDE

    private static void outsideHour(int hour) {
        refused("height(0, " + hour + ", 1)", x -> x.height(0, hour, 1), OUTSIDE);
        refused("span(0, " + hour + ", 9, 0)", x -> x.span(0, hour, 9, 0), OUTSIDE);
        refused("morning(0, " + hour + ", 1, 9)", x -> x.morning(0, hour, 1, 9), OUTSIDE);
        refused("canBe(0, " + hour + ", 9, 0)", x -> x.canBe(0, hour, 9, 0), OUTSIDE);
        refused("likely(0, " + hour + ", 9, 0)", x -> x.likely(0, hour, 9, 0), OUTSIDE);
        refused("write(0, " + hour + ", 1, 9)", x -> x.write(0, hour, 1, 9), OUTSIDE);
    }

    private static void outsideHours() {
        about("OUTSIDE: HOUR h (0 .. 99)");
        outsideHour(100);
        outsideHour(101);
        for (int hour : FAR) {
            outsideHour(hour);
        }
    }

    private static void outsideHeight(int height) {
        refused("span(0, 0, " + height + ", 0)", x -> x.span(0, 0, height, 0), OUTSIDE);
        refused("morning(0, 0, 1, " + height + ")", x -> x.morning(0, 0, 1, height), OUTSIDE);
        refused("canBe(0, 0, " + height + ", 0)", x -> x.canBe(0, 0, height, 0), OUTSIDE);
        refused("likely(0, 0, " + height + ", 0)", x -> x.likely(0, 0, height, 0), OUTSIDE);
        refused("write(0, 0, 1, " + height + ")", x -> x.write(0, 0, 1, height), OUTSIDE);
    }

    private static void outsideHeights() {
        about("OUTSIDE: HEIGHT (0 .. 99999)");
        outsideHeight(100000);
        outsideHeight(100001);
        for (int height : FAR) {
            outsideHeight(height);
        }
    }

    private static void outsideOther(int n) {
        refused("told(" + n + ")", x -> x.told(n), OUTSIDE);
        refused("bath(0, " + n + ")", x -> x.bath(0, n), OUTSIDE);
        refused("bather(0, " + n + ")", x -> x.bather(0, n), OUTSIDE);
        refused("span(0, 0, 9, " + n + ")", x -> x.span(0, 0, 9, n), OUTSIDE);
        refused("needed(3, " + n + ")", x -> x.needed(3, n), OUTSIDE);
        refused("called(0, " + n + ")", x -> x.called(0, n), OUTSIDE);
        refused("called(" + n + ", 0)", x -> x.called(n, 0), OUTSIDE);
        refused("drift(0, " + n + ")", x -> x.drift(0, n), OUTSIDE);
    }

    private static void outsideOthers() {
        about("OUTSIDE (another number out of its bounds)");
        for (int n : FAR) {
            outsideOther(n);
        }
        refused("told(7)", x -> x.told(7), OUTSIDE);
        refused("bath(0, 4)", x -> x.bath(0, 4), OUTSIDE);
        refused("bather(0, 6)", x -> x.bather(0, 6), OUTSIDE);
        refused("span(0, 0, 9, 2)", x -> x.span(0, 0, 9, 2), OUTSIDE);
        refused("needed(3, 3)", x -> x.needed(3, 3), OUTSIDE);
        refused("called(0, 2)", x -> x.called(0, 2), OUTSIDE);
        refused("called(1000, 0)", x -> x.called(1000, 0), OUTSIDE);
        refused("drift(0, 0)", x -> x.drift(0, 0), OUTSIDE);
        refused("drift(0, 31)", x -> x.drift(0, 31), OUTSIDE);
        for (int v : new int[] {LEAST, LEAST + 1, -2, -1}) {
            refused("seed(" + v + ")", x -> x.seed(v), OUTSIDE);
        }
    }

    private static void outsideFeeds() {
        about("2: OUTSIDE, n bytes (1 .. 8), ahead of FULL");
        for (int n : new int[] {LEAST, -8, -1, 0, 9, 16, MOST}) {
            refused("feed(" + n + ", ..)", x -> x.feed(n, 0x3b3b3b3b3b3b3b3bL), OUTSIDE);
        }
    }

    // ---- which of several comes first

    private static void unknownAheadOfOutside() {
        about("REFUSALS, of several the first in this order: UNKNOWN ahead of OUTSIDE");
        refused("bath(2, 4)", x -> x.bath(2, 4), UNKNOWN);
        refused("bather(6, 6)", x -> x.bather(6, 6), UNKNOWN);
        refused("height(2, 100, 1)", x -> x.height(2, 100, 1), UNKNOWN);
        refused("height(0, 100, 64)", x -> x.height(0, 100, 64), UNKNOWN);
        refused("span(2, 100, 100000, 2)", x -> x.span(2, 100, 100000, 2), UNKNOWN);
        refused("morning(2, 100, 1, 100000)", x -> x.morning(2, 100, 1, 100000), UNKNOWN);
        refused("morning(0, 100, 64, 9)", x -> x.morning(0, 100, 64, 9), UNKNOWN);
        refused("morning(0, 0, 64, 100000)", x -> x.morning(0, 0, 64, 100000), UNKNOWN);
        refused("canBe(2, 100, 9, 0)", x -> x.canBe(2, 100, 9, 0), UNKNOWN);
        refused("canBe(2, 0, 100000, -2)", x -> x.canBe(2, 0, 100000, -2), UNKNOWN);
        refused("likely(2, 100, 9, 0)", x -> x.likely(2, 100, 9, 0), UNKNOWN);
        refused("likely(0, 100, 9, 6)", x -> x.likely(0, 100, 9, 6), UNKNOWN);
        refused("likely(0, 0, 100000, 6)", x -> x.likely(0, 0, 100000, 6), UNKNOWN);
        refused("needed(8192, 3)", x -> x.needed(8192, 3), UNKNOWN);
        refused("needed(-1, -1)", x -> x.needed(-1, -1), UNKNOWN);
        refused("write(2, 100, 1, 9)", x -> x.write(2, 100, 1, 9), UNKNOWN);
        refused("write(0, 100, 64, 9)", x -> x.write(0, 100, 64, 9), UNKNOWN);
        refused("write(0, 0, 64, 100000)", x -> x.write(0, 0, 64, 100000), UNKNOWN);
        refused("drift(2, 31)", x -> x.drift(2, 31), UNKNOWN);
        refused("drift(-1, 0)", x -> x.drift(-1, 0), UNKNOWN);
        about("13: OUTSIDE ahead of NONE");
        refused("canBe(0, 100, 9, -2)", x -> x.canBe(0, 100, 9, -2), OUTSIDE);
        refused("canBe(0, 0, 100000, 64)", x -> x.canBe(0, 0, 100000, 64), OUTSIDE);
    }

    private static void unknownAheadOfNot() {
        about("REFUSALS: UNKNOWN ahead of NOT: an IMAGE that there is not is not kept either");
        refusedOn(with(HOUSE), with(HOUSE), "goBack(2)", x -> x.goBack(2), UNKNOWN);
        refusedOn(with(HOUSE), with(HOUSE), "goBack(-1)", x -> x.goBack(-1), UNKNOWN);
    }

    private static void outsideAheadOfNot() {
        about("REFUSALS: OUTSIDE ahead of NOT");
        String noBath = HOUSE.substring(HOUSE.indexOf("odd"));
        refusedOn(with(noBath), with(noBath), "called(1000, 0)", x -> x.called(1000, 0), OUTSIDE);
        refusedOn(with(noBath), with(noBath), "called(-1, 0)", x -> x.called(-1, 0), OUTSIDE);
        refusedOn(with(noBath), with(noBath), "called(0, 2)", x -> x.called(0, 2), OUTSIDE);
        refusedOn(with(noBath), with(noBath), "called(0, -1)", x -> x.called(0, -1), OUTSIDE);
        refusedOn(with(noBath), with(noBath), "called(0, 0)", x -> x.called(0, 0), NOT);
        refusedOn(with(noBath), with(noBath), "called(999, 1)", x -> x.called(999, 1), NOT);
    }

    private static void full() {
        about("FULL");
        refusedOn(filled(), filled(), "morning(0, 0, 1, 9)", x -> x.morning(0, 0, 1, 9), FULL);
        refusedOn(filled(), filled(), "morning(1, 99, 0, 99999)", x -> x.morning(1, 99, 0, 99999), FULL);
        refusedOn(filled(), filled(), "write(0, 0, 1, 9)", x -> x.write(0, 0, 1, 9), FULL);
        refusedOn(filled(), filled(), "write(1, 99, 0, 99999)", x -> x.write(1, 99, 0, 99999), FULL);
        for (int n = 1; n <= 8; n++) {
            int many = n;
            refusedOn(filled(), filled(), "feed(" + n + ", ..)", x -> x.feed(many, 0x3b3b3b3b3b3b3b3bL), FULL);
        }
        refusedOn(nearlyFilled(), nearlyFilled(), "feed(8, ..) with room for 7", x -> x.feed(8, -1L), FULL);
    }

    private static BathWater nearlyFilled() {
        BathWater x = with(HOUSE);
        put(x, OTHER + times(393 - OTHER.length(), " "));
        return x;
    }

    private static void notKept() {
        about("28: NOT: it was not kept");
        refusedOn(little(), little(), "goBack(1)", x -> x.goBack(1), NOT);
        refusedOn(with(HOUSE), with(HOUSE), "goBack(0)", x -> x.goBack(0), NOT);
        refusedOn(new BathWater(), new BathWater(), "goBack(0)", x -> x.goBack(0), NOT);
    }

    private static void faultsChangeNothing() {
        about("3: -10 less the number of its FAULT (all else is as it was)");
        String[] bad = {"x", OTHER + "odd 3;", OTHER + "bather 2 1 1 1;", OTHER + "bath 0", times(3, "bath 1 1 1 1;")};
        int[] faults = {1, 3, 4, 2, 3};
        for (int i = 0; i < bad.length; i++) {
            BathWater x = toldWithoutText();
            BathWater twin = toldWithoutText();
            put(x, bad[i]);
            due("house() of '" + bad[i] + "'", x.house(), -10 - faults[i]);
            // The place of a FAULT is told: of the like the twin is told too, by the shortest text.
            put(twin, times(x.fault(), " ") + "x");
            due("house() of the twin", twin.house(), -11);
            same("a FAULT", x, twin);
        }
    }

    private static BathWater toldWithoutText() {
        BathWater x = with(HOUSE);
        x.seed(5);
        x.drift(0, 4);
        x.keep(1);
        x.morning(0, 0, 32, 3);
        x.write(0, 0, 7, 9);
        x.alike(0);
        return x;
    }

    private static void nothingIsThere() {
        about("UNKNOWN, OUTSIDE of an object that is new");
        for (int n : new int[] {LEAST, -1, 0, 1, 6, MOST}) {
            ofANewOne("bath(" + n + ", 0)", x -> x.bath(n, 0), UNKNOWN);
            ofANewOne("bather(" + n + ", 0)", x -> x.bather(n, 0), UNKNOWN);
            ofANewOne("height(" + n + ", 0, 0)", x -> x.height(n, 0, 0), UNKNOWN);
            ofANewOne("span(" + n + ", 0, 0, 0)", x -> x.span(n, 0, 0, 0), UNKNOWN);
            ofANewOne("morning(" + n + ", 0, 0, 0)", x -> x.morning(n, 0, 0, 0), UNKNOWN);
            ofANewOne("strike(" + n + ")", x -> x.strike(n), UNKNOWN);
            ofANewOne("canBe(" + n + ", 0, 0, 0)", x -> x.canBe(n, 0, 0, 0), UNKNOWN);
            ofANewOne("likely(" + n + ", 0, 0, 0)", x -> x.likely(n, 0, 0, 0), UNKNOWN);
            ofANewOne("odds(" + n + ")", x -> x.odds(n), n == 0 ? 1000000000 : UNKNOWN);
            ofANewOne("tells(" + n + ", 1, 0)", x -> x.tells(n, 1, 0), UNKNOWN);
            ofANewOne("alike(" + n + ")", x -> x.alike(n), n == 0 ? 1 : UNKNOWN);
            ofANewOne("needed(" + n + ", 0)", x -> x.needed(n, 0), n == 0 || n == 1 ? 0 : UNKNOWN);
            ofANewOne("write(" + n + ", 0, 0, 0)", x -> x.write(n, 0, 0, 0), UNKNOWN);
            ofANewOne("drift(" + n + ", 1)", x -> x.drift(n, 1), UNKNOWN);
        }
    }

    private static void ofANewOne(String name, Call call, int due) {
        refusedOn(new BathWater(), new BathWater(), name, call, due);
    }
}
