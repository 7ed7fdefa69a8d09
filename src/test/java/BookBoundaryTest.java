import java.math.BigInteger;

/** THE BOOK, BY DRAWS, THE SEED, IMAGES, sentence by sentence: bounds, one below, one above, none and all. */
public final class BookBoundaryTest extends Asker {
    private static final int[] FAR = {-1, -2, LEAST, LEAST + 1, MOST - 1, MOST};
    private static final long TIMES = 1103515245L, AND = 12345L, SEEDS = 1L << 31;
    private static final String SIX = "bath 1 1 0 0;" + times(6, "bather 1 999 500 50;");
    /** One who always comes; his ENDS tell the HOUR of a morning. */
    private static final String HOURS = "bath 10 1 9 3;bather 1 999 55 100;";
    private static final int[] LOWER_BY_HOUR = {51, 54, 47, 50};

    public static void main(String[] args) {
        thirtyEntries();
        boundsOfAnEntry();
        anEntryOfNobody();
        tearHowMany();
        wrongTheFirst();
        wrongByOneFinger();
        wrongInEachBath();
        wrongNone();
        driftOneToThirty();
        driftUpToTheRoom();
        driftWithoutBathers();
        drawOf100BelowP();
        bathersInOrder();
        hourByADrawOfFour();
        heightInTruth();
        seedAtFirst();
        seedBounds();
        seedWrapsAround();
        seedIsCutBy65536();
        lastOf512Calls();
        seedStaysWhenRefused();
        imagesZeroAndOne();
        imagesNotKept();
        imagesOfNoneAndTwelve();
        imagesKeepTheSeed();
        imagesAreGone();
        finish();
    }

    private static long next(long seed) {
        return (seed * TIMES + AND) % SEEDS;
    }

    /** The SEED that becomes this one by a DRAW. */
    private static int before(long seed) {
        BigInteger all = BigInteger.valueOf(SEEDS);
        return BigInteger.valueOf(seed - AND).multiply(BigInteger.valueOf(TIMES).modInverse(all)).mod(all).intValueExact();
    }

    // ---- THE BOOK

    private static void thirtyEntries() {
        about("3: THE BOOK, 30 at most; 21: FULL (30)");
        BathWater x = with(SIX);
        for (int i = 1; i <= 30; i++) {
            due("write " + i, x.write(0, 0, 1, 500), i);
            due("told(4)", x.told(4), i);
        }
        due("write 31", x.write(0, 0, 1, 500), FULL);
        due("write 31, untrue", x.write(0, 0, 1, 501), FULL);
        due("told(4)", x.told(4), 30);
        due("judge()", x.judge(), NONE);
        due("tear()", x.tear(), 30);
        due("write 1", x.write(0, 0, 1, 501), 1);
        due("judge()", x.judge(), 0);
    }

    private static void boundsOfAnEntry() {
        about("21: UNKNOWN, OUTSIDE");
        BathWater x = with("bath 1 1 5 0;bath 1 1 0 0;bather 1 9 4 0;bather 1 9 4 0;");
        for (int far : FAR) {
            due("write(0, 0, 3, " + far + ")", x.write(0, 0, 3, far), OUTSIDE);
            due("write(0, " + far + ", 3, 9)", x.write(0, far, 3, 9), OUTSIDE);
            due("write(0, 0, " + far + ", 9)", x.write(0, 0, far, 9), UNKNOWN);
            due("write(" + far + ", 0, 3, 9)", x.write(far, 0, 3, 9), UNKNOWN);
        }
        due("write(0, 0, 3, 100000)", x.write(0, 0, 3, 100000), OUTSIDE);
        due("write(0, 100, 3, 9)", x.write(0, 100, 3, 9), OUTSIDE);
        due("write(0, 0, 4, 9)", x.write(0, 0, 4, 9), UNKNOWN);
        due("write(2, 0, 3, 9)", x.write(2, 0, 3, 9), UNKNOWN);
        due("told(4)", x.told(4), 0);
        due("write(0, 0, 0, 0)", x.write(0, 0, 0, 0), 1);
        due("write(1, 99, 3, 99999)", x.write(1, 99, 3, 99999), 2);
        due("write(0, 0, 0, 0) without BATHS", with("bather 1 1 1 0;").write(0, 0, 0, 0), UNKNOWN);
    }

    private static void anEntryOfNobody() {
        about("3: (BATH, HOUR, SET, HEIGHT), a SET of nobody");
        BathWater x = with("bath 5 1 10 1;");
        x.write(0, 0, 0, 2);
        x.write(0, 1, 0, 1);
        x.write(0, 5, 0, 1);
        x.write(0, 6, 0, 0);
        x.write(0, 99, 0, 0);
        due("judge()", x.judge(), NONE);
        x.write(0, 99, 0, 1);
        due("judge()", x.judge(), 5);
        due("write(0, 0, 1, 2)", x.write(0, 0, 1, 2), UNKNOWN);
    }

    private static void tearHowMany() {
        about("22: THE BOOK is empty: how many entries it had");
        due("tear() of a new one", new BathWater().tear(), 0);
        for (int n : new int[] {0, 1, 29, 30}) {
            BathWater x = with(SIX);
            for (int i = 0; i < n; i++) {
                x.write(0, 0, 1, 0);
            }
            due("tear()", x.tear(), n);
            due("told(4)", x.told(4), 0);
            due("judge()", x.judge(), NONE);
            due("tear() of none", x.tear(), 0);
        }
    }

    private static void wrongTheFirst() {
        about("3: WRONG: the first whose HEIGHT is not that by SIZES in truth");
        for (int wrong = 0; wrong < 30; wrong++) {
            BathWater x = with(SIX);
            for (int i = 0; i < 30; i++) {
                x.write(0, i, 3, i == wrong || i == 29 ? 999 : 1000);
            }
            due("judge()", x.judge(), wrong);
        }
    }

    private static void wrongByOneFinger() {
        about("3: WRONG: one finger below, one above, far out");
        int[] heights = {1000, 999, 1001, 0, 99999};
        for (int height : heights) {
            BathWater x = with(SIX);
            x.write(0, 99, 3, height);
            due("judge() of " + height, x.judge(), height == 1000 ? NONE : 0);
        }
        BathWater cut = with("bath 10 1 9 1;bather 1 99 30 0;bather 1 99 60 0;");
        cut.write(0, 0, 1, 3);
        cut.write(0, 9, 1, 3);
        cut.write(0, 99, 2, 6);
        due("judge(), cut", cut.judge(), NONE);
        cut.write(0, 0, 1, 4);
        due("judge()", cut.judge(), 3);
    }

    private static void wrongInEachBath() {
        about("3: (BATH, HOUR, SET, HEIGHT), in each BATH at each HOUR");
        BathWater x = with("bath 10 1 0 0;bath 1 1 99 1;bather 1 999 25 50;");
        x.morning(0, 0, 1, 2);
        for (int i = 0; i < 30; i++) {
            int hour = 33 * (i / 2 % 4);
            x.write(i % 2, hour, 1, i % 2 == 0 ? 2 : 99 - hour + 25);
        }
        due("judge(), all true", x.judge(), NONE);
        x.tear();
        x.write(1, 99, 1, 2);
        due("judge(), the other BATH's HEIGHT", x.judge(), 0);
        x.tear();
        x.write(0, 0, 1, 124);
        due("judge(), the other BATH's HEIGHT", x.judge(), 0);
        x.tear();
        x.write(1, 98, 1, 25);
        due("judge(), another HOUR's HEIGHT", x.judge(), 0);
    }

    private static void wrongNone() {
        about("23: WRONG; NONE");
        due("judge() of a new one", new BathWater().judge(), NONE);
        due("judge() of none", with(SIX).judge(), NONE);
        BathWater x = with(SIX);
        x.morning(0, 0, 3, 7);
        due("judge(), a MORNING is no entry", x.judge(), NONE);
    }

    // ---- BY DRAWS

    private static void driftOneToThirty() {
        about("24: n mornings (1 .. 30). UNKNOWN, OUTSIDE");
        BathWater x = with(SIX);
        for (int far : FAR) {
            due("drift(0, " + far + ")", x.drift(0, far), OUTSIDE);
            due("drift(" + far + ", 1)", x.drift(far, 1), UNKNOWN);
            due("drift(" + far + ", 0)", x.drift(far, 0), UNKNOWN);
            due("drift(1, " + far + ")", x.drift(1, far), UNKNOWN);
        }
        due("drift(0, 0)", x.drift(0, 0), OUTSIDE);
        due("drift(0, 31)", x.drift(0, 31), OUTSIDE);
        due("told(3)", x.told(3), 0);
        due("drift(0, 1)", x.drift(0, 1), 1);
        due("drift(0, 2)", x.drift(0, 2), 3);
        due("drift(0, 30)", x.drift(0, 30), 12);
        due("drift(0, 1) without BATHS", with("bather 1 1 1 0;").drift(0, 1), UNKNOWN);
        due("drift(0, 1) of a new one", new BathWater().drift(0, 1), UNKNOWN);
    }

    private static void driftUpToTheRoom() {
        about("3: is a MORNING more, if there is room");
        for (int had = 0; had <= 12; had++) {
            for (int n : new int[] {1, 12 - had, 13 - had, 30}) {
                BathWater x = with(SIX);
                for (int i = 0; i < had; i++) {
                    x.morning(0, 0, 1, 500);
                }
                if (n >= 1) {
                    due("drift(0, " + n + ") behind " + had, x.drift(0, n), Math.min(12, had + n));
                    due("told(3)", x.told(3), Math.min(12, had + n));
                    long seed = 0;
                    for (int draws = 0; draws < n * 7; draws++) {
                        seed = next(seed);
                    }
                    due("seed(0), drawn without room too", x.seed(0), (int) seed);
                }
            }
        }
        BathWater x = with(SIX);
        for (int i = 0; i < 12; i++) {
            x.morning(0, 0, 1, 500);
        }
        x.drift(0, 30);
        due("strike(11)", x.strike(11), 11);
        due("bather(1, 4), none of the twelve has gone", x.bather(1, 4), 1);
    }

    private static void driftWithoutBathers() {
        about("3: n mornings of a BATH: without BATHERS a DRAW of 4 alone");
        BathWater x = with("bath 5 1 10 1;");
        due("drift(0, 30)", x.drift(0, 30), 12);
        due("told(6), the HEIGHT in truth", x.told(6), 0);
        due("seed(0) behind 30 draws", x.seed(0), 371038354);
        due("drift(0, 1)", x.drift(0, 1), 12);
        due("seed(0) behind one", x.seed(0), 12345);
    }

    /** Whether one who comes on P of a hundred mornings comes by a DRAW. */
    private static int comes(int p, int draw) {
        BathWater x = with("bath 1 1 0 0;bather 1 999 500 " + p + ";");
        x.seed(before(draw * 65536L));
        x.drift(0, 1);
        return x.bather(0, 4) == 500 ? 1 : 0;
    }

    private static void drawOf100BelowP() {
        about("3: each BATHER comes by a DRAW of 100 below P");
        for (int p : new int[] {0, 1, 2, 50, 99, 100}) {
            for (int draw : new int[] {0, 1, 2, 49, 50, 51, 98, 99}) {
                due("comes by a DRAW of " + draw + " below " + p, comes(p, draw), draw < p ? 1 : 0);
            }
        }
        due("100 left over by 100", comes(1, 100), 1);
        due("199 left over by 100", comes(99, 199), 0);
        due("the greatest, 32767, left over by 100", comes(67, 32767), 0);
        due("the greatest, 32767, left over by 100", comes(68, 32767), 1);
    }

    private static void bathersInOrder() {
        about("3: each BATHER in order comes by a DRAW of 100 below P; HOUR: a DRAW of 4");
        int[] p = {100, 0, 50, 50, 50, 50};
        StringBuilder house = new StringBuilder("bath 1 1 0 0;");
        for (int of : p) {
            house.append("bather 1 999 500 ").append(of).append(';');
        }
        int[] start = {0, 1, 7, 12345, 65535, MOST};
        for (int from : start) {
            BathWater x = with(house.toString());
            x.seed(from);
            x.drift(0, 1);
            long seed = from;
            int set = 0;
            for (int k = 0; k < 6; k++) {
                seed = next(seed);
                set |= seed / 65536 % 100 < p[k] ? 1 << k : 0;
            }
            due("seed(0) behind seven draws", x.seed(0), (int) next(seed));
            int sum = 500 * Integer.bitCount(set);
            for (int k = 0; k < 6; k++) {
                boolean in = (set & 1 << k) != 0;
                int lower = Math.max(1, sum - 999 * (Integer.bitCount(set) - 1));
                due("bather(" + k + ", 4), SEED " + from, x.bather(k, 4), in ? lower : 1);
            }
        }
    }

    private static void hourByADrawOfFour() {
        about("3: HOUR: a DRAW of 4");
        for (int draw = 0; draw <= 4; draw++) {
            BathWater x = with(HOURS);
            x.seed(before(before(draw * 65536L)));
            x.drift(0, 1);
            due("bather(0, 4), a DRAW of " + draw, x.bather(0, 4), LOWER_BY_HOUR[draw % 4]);
            due("seed(0)", x.seed(0), draw * 65536);
        }
    }

    private static void heightInTruth() {
        about("3: its HEIGHT in truth is a MORNING more");
        for (int from = 0; from < 20; from++) {
            BathWater x = with("bath 1 1 0 0;bath 7 3 99 40;bather 1 999 5 90;bather 300 999 300 50;bather 1 999 999 10;");
            x.seed(from * 99991);
            due("drift(0, 6)", x.drift(0, 6), 6);
            due("drift(1, 6)", x.drift(1, 6), 12);
            due("told(6)", x.told(6), 0);
            due("wrong()", x.wrong(), 0);
        }
        BathWater far = with("bath 1 1 9999 0;" + times(6, "bather 1 999 999 100;"));
        far.drift(0, 1);
        due("bather(0, 4), the greatest HEIGHT", far.bather(0, 4), 999);
        BathWater least = with("bath 99 99 0 0;bather 1 999 1 100;");
        least.drift(0, 1);
        due("bather(0, 5), the least HEIGHT", least.bather(0, 5), 999);
        due("told(6)", least.told(6), 0);
    }

    // ---- THE SEED

    private static void seedAtFirst() {
        about("3: THE SEED (0 at first)");
        due("seed(9) of a new one", new BathWater().seed(9), 0);
        due("seed(9) behind house()", with(SIX).seed(9), 0);
        BathWater x = with("bath 1 1 0 0;");
        x.drift(0, 1);
        due("seed(9) behind a DRAW", x.seed(9), 12345);
        due("seed(9) of another", new BathWater().seed(9), 0);
    }

    private static void seedBounds() {
        about("26: THE SEED becomes v (0 .. 2147483647): what it was. OUTSIDE");
        BathWater x = new BathWater();
        int was = 0;
        for (int v : new int[] {0, 1, 65535, 65536, 1073741824, MOST - 1, MOST}) {
            due("seed(" + v + ")", x.seed(v), was);
            was = v;
            for (int below : new int[] {-1, -2, LEAST + 1, LEAST}) {
                due("seed(" + below + ")", x.seed(below), OUTSIDE);
            }
        }
        due("seed(0)", x.seed(0), MOST);
        due("seed(0)", x.seed(0), 0);
    }

    private static int drawn(int seed) {
        BathWater x = with("bath 1 1 0 0;");
        x.seed(seed);
        x.drift(0, 1);
        return x.seed(0);
    }

    private static void seedWrapsAround() {
        about("3: it times 1103515245 and 12345, left over by 2 to the 31");
        due("behind 0", drawn(0), 12345);
        due("behind 1", drawn(1), 1103527590);
        due("behind 2", drawn(2), (int) (2207042835L - SEEDS));
        due("behind 1073741824", drawn(1073741824), 1073754169);
        due("behind 2147483646", drawn(2147483646), 2087949151);
        due("behind 2147483647", drawn(2147483647), 1043980748);
        due("behind that of 0", drawn(2088216195), 0);
        due("behind that of 2147483647", drawn(230538014), 2147483647);
        due("behind that of 65535", drawn(2032319262), 65535);
        BathWater x = with(SIX);
        x.seed(MOST);
        x.drift(0, 30);
        due("behind 2147483647, 210 times", x.seed(0), 694321605);
    }

    private static void lastOf512Calls() {
        about("An object is used for at most 512 calls after it has been made");
        BathWater x = new BathWater();
        put(x, "bath 9 9 9 0;");
        x.house();
        long seed = 0;
        for (int call = 4; call <= 511; call++) {
            due("drift(0, 1), call " + call, x.drift(0, 1), Math.min(12, call - 3));
            seed = next(seed);
        }
        due("seed(0), call 512", x.seed(0), (int) seed);
    }

    private static void seedIsCutBy65536() {
        about("3: the DRAW of n is it / 65536, left over by n");
        long[] seeds = {0, 1, 65535, 65536, 131071, 131072, 262143, 262144, 2147418111L, 2147418112L, 2147483647L};
        int[] hours = {0, 0, 0, 1, 1, 2, 3, 0, 2, 3, 3};
        for (int i = 0; i < seeds.length; i++) {
            BathWater x = with(HOURS);
            x.seed(before(before(seeds[i])));
            x.drift(0, 1);
            due("bather(0, 4), SEED " + seeds[i], x.bather(0, 4), LOWER_BY_HOUR[hours[i]]);
            due("seed(0)", x.seed(0), (int) seeds[i]);
        }
    }

    private static void seedStaysWhenRefused() {
        about("What is refused changes nothing: no DRAW by a drift that is refused");
        BathWater x = with("bath 1 1 0 0;");
        x.seed(77);
        x.drift(0, 0);
        x.drift(0, 31);
        x.drift(1, 1);
        x.drift(-1, 1);
        x.seed(-1);
        due("seed(0)", x.seed(0), 77);
    }

    // ---- IMAGES

    private static void imagesZeroAndOne() {
        about("3: IMAGES 0, 1; 27, 28: UNKNOWN");
        BathWater[] all = {new BathWater(), with(SIX)};
        for (BathWater x : all) {
            for (int i : new int[] {-1, 2, 3, LEAST, MOST}) {
                due("keep(" + i + ")", x.keep(i), UNKNOWN);
                due("goBack(" + i + ")", x.goBack(i), UNKNOWN);
            }
            due("goBack(0)", x.goBack(0), NOT);
            due("goBack(1)", x.goBack(1), NOT);
            due("keep(0)", x.keep(0), 1);
            due("keep(1)", x.keep(1), 1);
            due("goBack(0)", x.goBack(0), 1);
            due("goBack(1)", x.goBack(1), 1);
            due("goBack(2)", x.goBack(2), UNKNOWN);
            due("goBack(-1)", x.goBack(-1), UNKNOWN);
        }
    }

    private static void imagesNotKept() {
        about("28: NOT: it was not kept");
        for (int kept = 0; kept <= 1; kept++) {
            BathWater x = with(SIX);
            due("keep(" + kept + ")", x.keep(kept), 1);
            due("goBack(" + (1 - kept) + ")", x.goBack(1 - kept), NOT);
            due("goBack(" + kept + ")", x.goBack(kept), 1);
            due("goBack(" + kept + ") again", x.goBack(kept), 1);
            due("goBack(" + (1 - kept) + ")", x.goBack(1 - kept), NOT);
        }
    }

    private static void imagesOfNoneAndTwelve() {
        about("3: IMAGES keep MORNINGS: none, all twelve");
        BathWater x = with(SIX);
        due("keep(0) of none", x.keep(0), 1);
        for (int i = 0; i < 12; i++) {
            x.morning(0, 0, 1 << i % 6, 101 + i % 6);
        }
        due("keep(1) of twelve", x.keep(1), 1);
        due("goBack(0)", x.goBack(0), 1);
        due("told(3)", x.told(3), 0);
        due("bather(5, 5)", x.bather(5, 5), 999);
        x.morning(0, 0, 32, 7);
        due("goBack(1)", x.goBack(1), 1);
        due("told(3)", x.told(3), 12);
        due("morning 13", x.morning(0, 0, 1, 101), FULL);
        for (int k = 0; k < 6; k++) {
            due("bather(" + k + ", 4)", x.bather(k, 4), 101 + k);
            due("bather(" + k + ", 5)", x.bather(k, 5), 101 + k);
        }
        due("told(6)", x.told(6), 0);
        x.forget();
        due("goBack(1), as kept", x.goBack(1), 1);
        due("told(3)", x.told(3), 12);
        due("goBack(0), as kept", x.goBack(0), 1);
        due("told(3)", x.told(3), 0);
    }

    private static void imagesKeepTheSeed() {
        about("3: IMAGES keep THE SEED: 0, 2147483647");
        BathWater x = with("bath 1 1 0 0;");
        x.keep(0);
        x.seed(MOST);
        x.keep(1);
        x.drift(0, 3);
        due("goBack(1)", x.goBack(1), 1);
        due("seed(5)", x.seed(5), MOST);
        due("goBack(0)", x.goBack(0), 1);
        due("seed(5)", x.seed(5), 0);
    }

    private static void imagesAreGone() {
        about("3: house(): IMAGES are gone; THE SEED stays; not by a FAULT");
        BathWater x = with(SIX);
        x.seed(MOST);
        x.keep(0);
        x.keep(1);
        put(x, "!");
        due("house() with a FAULT", x.house(), -11);
        due("goBack(0)", x.goBack(0), 1);
        due("goBack(1)", x.goBack(1), 1);
        due("house() of nothing", x.house(), 0);
        due("goBack(0)", x.goBack(0), NOT);
        due("goBack(1)", x.goBack(1), NOT);
        due("seed(0)", x.seed(0), MOST);
    }
}
