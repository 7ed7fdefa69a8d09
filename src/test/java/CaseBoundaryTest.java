/** CASES, ALIKE, MORNINGS NEEDED, AWAY, CALLED IN, sentence by sentence: bounds, one below, one above, none and all. */
public final class CaseBoundaryTest extends Asker {
    private static final int[] FAR = {-1, -2, LEAST, LEAST + 1, MOST - 1, MOST};
    private static final int ALL_CASES = 8191;
    private static final String FINE = "bath 1 1 0 0;odd 5;";
    /** No size ever shows in it. */
    private static final String BLUNT = "bath 99 99 0 0;odd 5;";

    public static void main(String[] args) {
        whichCasesThereAre();
        emptySetIsNoTry();
        triesThatThereAreNot();
        oneIsMore();
        oneHoldsTheRail();
        atHourZero();
        oddUpToAFinger();
        alikeOfAll();
        alikeOfNoneButItself();
        alikeByTheSmallestMore();
        alikeByTheRail();
        alikeByAllTogether();
        neededOfNoneAndOne();
        neededOfCasesThatThereAreNot();
        neededOfAlikeOnes();
        neededWhat();
        neededAtWorst();
        neededOfAll();
        neededByTheHouse();
        firstTheLesserBath();
        firstTheLesserSet();
        firstByWhichSoFewAreEnough();
        awayNone();
        awayTheLeast();
        awayTheLast();
        awayOfCasesOneToSix();
        calledAboveG();
        calledWhat();
        calledWithoutBaths();
        calledWithoutBathers();
        calledInTheFinestBath();
        calledAtHourZero();
        calledWidest();
        calledZeroAtLeast();
        finish();
    }

    private static String sized(int... sizes) {
        StringBuilder text = new StringBuilder();
        for (int size : sizes) {
            text.append(bathers(1, size));
        }
        return text.toString();
    }

    private static String bathers(int n, int size) {
        return times(n, "bather 1 999 " + size + " 50;");
    }

    private static boolean isCase(int c, int bathers) {
        return c == 0 || c >= 1 && c <= bathers || c >= 7 && c <= 6 + bathers;
    }

    // ---- CASES and TRIES

    private static void whichCasesThereAre() {
        about("3: case 0; 1 and k: BATHER k; 7 and k: BATHER k; 16, 17, 18: UNKNOWN (a case that there is not)");
        for (int n = 0; n <= 6; n++) {
            BathWater x = with(FINE + bathers(n, 10));
            for (int c = -2; c <= 14; c++) {
                boolean is = isCase(c, n);
                due("alike(" + c + ") of " + n, x.alike(c), is ? 1 << c : UNKNOWN);
                due("tells(0, 1, " + c + ") of " + n, x.tells(0, 1, c) == UNKNOWN ? UNKNOWN : 0, is && n > 0 ? 0 : UNKNOWN);
            }
            for (int c = 0; c < 32; c++) {
                due("needed(1 << " + c + ", 0) of " + n, x.needed(1 << c, 0), isCase(c, n) ? 0 : UNKNOWN);
            }
            for (int far : new int[] {LEAST, LEAST + 1, LEAST + 7, MOST, MOST - 1, 32, 39, 64}) {
                due("alike(" + far + ") of " + n, x.alike(far), UNKNOWN);
                due("tells(0, 1, " + far + ") of " + n, x.tells(0, 1, far), UNKNOWN);
            }
        }
    }

    private static void emptySetIsNoTry() {
        about("3: A TRY: a BATH, a SET (not empty); 16: UNKNOWN (also an empty SET)");
        for (int n = 0; n <= 6; n++) {
            BathWater x = with(FINE + bathers(n, 10));
            due("tells(0, 0, 0) of " + n, x.tells(0, 0, 0), UNKNOWN);
            due("tells(0, 1, 0) of " + n, x.tells(0, 1, 0), n > 0 ? 10 : UNKNOWN);
            due("the SET of all of " + n, x.tells(0, (1 << n) - 1, 0), n > 0 ? 10 * n : UNKNOWN);
            due("one more than the SET of all of " + n, x.tells(0, 1 << n, 0), UNKNOWN);
        }
    }

    private static void triesThatThereAreNot() {
        about("16: UNKNOWN");
        BathWater x = with(FINE + bathers(6, 10));
        for (int far : FAR) {
            due("tells(" + far + ", 1, 0)", x.tells(far, 1, 0), UNKNOWN);
            due("tells(0, " + far + ", 0)", x.tells(0, far, 0), UNKNOWN);
            due("tells(0, 1, " + far + ")", x.tells(0, 1, far), UNKNOWN);
        }
        due("tells(1, 1, 0)", x.tells(1, 1, 0), UNKNOWN);
        due("tells(0, 64, 0)", x.tells(0, 64, 0), UNKNOWN);
        due("tells(0, 1, 13)", x.tells(0, 1, 13), UNKNOWN);
        due("tells(0, 0, 0)", new BathWater().tells(0, 0, 0), UNKNOWN);
        due("tells(0, 1, 0) without BATHS", with(bathers(6, 10)).tells(0, 1, 0), UNKNOWN);
    }

    private static void oneIsMore() {
        about("3: 1 and k: BATHER k is D more");
        BathWater least = with("bath 1 1 3 0;odd 1;" + bathers(6, 10));
        BathWater most = with("bath 1 1 3 0;odd 999;" + bathers(6, 10));
        for (int k = 0; k < 6; k++) {
            due("tells(0, 63, 0)", least.tells(0, 63, 0), 63);
            due("tells(0, 63, " + (1 + k) + ")", least.tells(0, 63, 1 + k), 64);
            due("tells(0, 63, " + (1 + k) + ")", most.tells(0, 63, 1 + k), 1062);
            due("tells, he alone", least.tells(0, 1 << k, 1 + k), 14);
            due("tells, all but him", most.tells(0, 63 - (1 << k), 1 + k), 53);
        }
        BathWater far = with("bath 1 1 9999 0;odd 999;" + times(6, "bather 999 999 999 0;"));
        due("tells(0, 63, 6), the greatest", far.tells(0, 63, 6), 9999 + 6 * 999 + 999);
    }

    private static void oneHoldsTheRail() {
        about("3: 7 and k: BATHER k holds the rail and counts for nothing");
        BathWater x = with("bath 1 1 3 0;odd 100;bather 1 9 1 0;bather 1 9 2 0;bather 1 9 4 0;bather 1 99 8 0;"
            + "bather 1 99 16 0;bather 1 99 32 0;");
        for (int k = 0; k < 6; k++) {
            due("tells(0, 63, " + (7 + k) + ")", x.tells(0, 63, 7 + k), 66 - (1 << k));
            due("tells, he alone", x.tells(0, 1 << k, 7 + k), 3);
            due("tells, all but him", x.tells(0, 63 - (1 << k), 7 + k), 66 - (1 << k));
        }
    }

    private static void atHourZero() {
        about("3: CASES, by SIZES in truth, HOUR 0");
        BathWater x = with("bath 1 1 50 99;odd 5;" + bathers(2, 10));
        x.morning(0, 0, 1, 61);
        due("tells(0, 3, 0)", x.tells(0, 3, 0), 70);
        due("tells(0, 3, 1)", x.tells(0, 3, 1), 75);
        due("tells(0, 3, 7)", x.tells(0, 3, 7), 60);
        BathWater leaking = with("bath 10 1 9 9;odd 1;bather 1 999 1 0;");
        due("alike(0), 10 with the water", leaking.alike(0), 1 | 2);
        needed(leaking, 1 | 128, 1, 0, 1);
        BathWater dry = with("bath 10 1 8 8;odd 1;bather 1 999 1 0;bather 1 999 5 0;");
        due("alike(0), 9 with the water", dry.alike(0), 1 | 4 | 128);
        needed(dry, 1 | 2, 1, 0, 1);
        due("away()", dry.away(), 0);
    }

    private static void oddUpToAFinger() {
        about("3: it tells HEIGHT: cut");
        String bather = "bather 1 999 5 0;";
        due("tells, 5 and 4 of 10", with("bath 10 1 0 0;odd 4;" + bather).tells(0, 1, 1), 0);
        due("tells, 5 and 5 of 10", with("bath 10 1 0 0;odd 5;" + bather).tells(0, 1, 1), 1);
        due("tells, 5 and 5, untold, of 10", with("bath 10 1 0 0;" + bather).tells(0, 1, 1), 1);
        due("tells, 5 and 14 of 10", with("bath 10 1 0 0;odd 14;" + bather).tells(0, 1, 1), 1);
        due("tells, 5 and 15 of 10", with("bath 10 1 0 0;odd 15;" + bather).tells(0, 1, 1), 2);
    }

    // ---- ALIKE

    private static void alikeOfAll() {
        about("3: ALIKE to a case: cases (a SET of 13) that no TRY parts from it: all");
        due("alike(0) of a new one", new BathWater().alike(0), 1);
        due("alike(0) without BATHERS", with(FINE).alike(0), 1);
        due("alike(7) without BATHERS", with(FINE).alike(7), UNKNOWN);
        BathWater blunt = with(BLUNT + bathers(6, 999));
        BathWater none = with(bathers(6, 999));
        for (int c = 0; c < 13; c++) {
            due("alike(" + c + ") in a blunt BATH", blunt.alike(c), ALL_CASES);
            due("alike(" + c + ") without BATHS", none.alike(c), ALL_CASES);
        }
        due("alike(0) of one BATHER without BATHS", with(bathers(1, 9)).alike(0), 1 | 2 | 128);
        due("alike(8) of two BATHERS without BATHS", with(bathers(2, 9)).alike(8), 1 | 2 | 4 | 128 | 256);
    }

    private static void alikeOfNoneButItself() {
        about("3: ALIKE to a case: the case itself alone");
        BathWater x = with(FINE + bathers(6, 1));
        BathWater second = with(BLUNT + "bath 1 1 0 0;" + bathers(6, 1));
        for (int c = 0; c < 13; c++) {
            due("alike(" + c + ")", x.alike(c), 1 << c);
            due("alike(" + c + "), by the second BATH", second.alike(c), 1 << c);
        }
        due("alike(13)", x.alike(13), UNKNOWN);
    }

    private static void alikeByTheSmallestMore() {
        about("3: ALIKE: D up to the next finger, one less");
        BathWater less = with("bath 10 1 0 0;odd 5;" + bathers(1, 4));
        due("alike(0), 4 and 5 of 10", less.alike(0), 1 | 2 | 128);
        due("alike(1), 4 and 5 of 10", less.alike(1), 1 | 2 | 128);
        BathWater more = with("bath 10 1 0 0;odd 6;" + bathers(1, 4));
        due("alike(0), 4 and 6 of 10", more.alike(0), 1 | 128);
        due("alike(1), 4 and 6 of 10", more.alike(1), 2);
        due("alike(7), 4 and 6 of 10", more.alike(7), 1 | 128);
        BathWater water = with("bath 10 1 1 0;odd 5;" + bathers(1, 4));
        due("alike(1), 1 and 4 and 5 of 10", water.alike(1), 2);
    }

    private static void alikeByTheRail() {
        about("3: ALIKE: a SIZE down to the finger below, one less");
        BathWater less = with("bath 10 1 0 0;odd 1;" + bathers(1, 9));
        due("alike(7), 9 of 10", less.alike(7), 1 | 128);
        BathWater more = with("bath 10 1 0 0;odd 1;" + bathers(1, 10));
        due("alike(7), 10 of 10", more.alike(7), 128);
        due("alike(0), 10 of 10", more.alike(0), 1 | 2);
        BathWater water = with("bath 10 1 9 0;odd 1;" + bathers(1, 1));
        due("alike(7), 9 and 1 of 10", water.alike(7), 128);
    }

    private static void alikeByAllTogether() {
        about("3: ALIKE: that no TRY parts, of six together neither");
        BathWater shows = with("bath 59 1 0 0;odd 5;" + bathers(6, 9));
        due("alike(0), 54 and 5 of 59", shows.alike(0), 1 | 128 | 256 | 512 | 1024 | 2048 | 4096);
        due("alike(1), 54 and 5 of 59", shows.alike(1), 2 | 4 | 8 | 16 | 32 | 64);
        BathWater not = with("bath 60 1 0 0;odd 5;" + bathers(6, 9));
        due("alike(0), 54 and 5 of 60", not.alike(0), ALL_CASES);
    }

    // ---- MORNINGS NEEDED

    private static void needed(BathWater x, int cases, int tries, int bath, int set) {
        due("needed(" + cases + ", 0)", x.needed(cases, 0), tries);
        due("needed(" + cases + ", 1)", x.needed(cases, 1), bath);
        due("needed(" + cases + ", 2)", x.needed(cases, 2), set);
    }

    private static void neededOfNoneAndOne() {
        about("18: NONE: none is needed; of no case, of one");
        needed(new BathWater(), 0, 0, NONE, NONE);
        needed(new BathWater(), 1, 0, NONE, NONE);
        BathWater x = with(FINE + bathers(6, 10));
        needed(x, 0, 0, NONE, NONE);
        for (int c = 0; c < 13; c++) {
            needed(x, 1 << c, 0, NONE, NONE);
        }
    }

    private static void neededOfCasesThatThereAreNot() {
        about("18: UNKNOWN (bits of such)");
        BathWater six = with(FINE + bathers(6, 10));
        due("needed(8191, 0)", six.needed(ALL_CASES, 0) > 0 ? 1 : 0, 1);
        due("needed(8192, 0)", six.needed(8192, 0), UNKNOWN);
        due("needed(8193, 0)", six.needed(8193, 0), UNKNOWN);
        due("needed(16383, 0)", six.needed(16383, 0), UNKNOWN);
        BathWater two = with(FINE + bathers(2, 10));
        due("needed of all five", two.needed(1 | 2 | 4 | 128 | 256, 0) > 0 ? 1 : 0, 1);
        due("needed(8, 0)", two.needed(8, 0), UNKNOWN);
        due("needed(64, 0)", two.needed(64, 0), UNKNOWN);
        due("needed(512, 0)", two.needed(512, 0), UNKNOWN);
        due("needed(4096, 0)", two.needed(4096, 0), UNKNOWN);
        due("needed(1 and 512, 0)", two.needed(513, 0), UNKNOWN);
        for (int far : FAR) {
            due("needed(" + far + ", 0)", six.needed(far, 0), UNKNOWN);
            due("needed(" + far + ", 3)", two.needed(far, 3), UNKNOWN);
        }
        due("needed(2, 0) without BATHERS", new BathWater().needed(2, 0), UNKNOWN);
        due("needed(128, 0) without BATHERS", new BathWater().needed(128, 0), UNKNOWN);
    }

    private static void neededOfAlikeOnes() {
        about("3: cases that are ALIKE being one");
        needed(with(BLUNT + bathers(6, 999)), ALL_CASES, 0, NONE, NONE);
        needed(with(bathers(6, 999)), ALL_CASES, 0, NONE, NONE);
        BathWater x = with("bath 10 1 0 0;odd 6;bather 1 9 4 0;");
        needed(x, 1 | 128, 0, NONE, NONE);
        needed(x, 1 | 2, 1, 0, 1);
        needed(x, 128 | 2, 1, 0, 1);
        needed(x, 1 | 2 | 128, 1, 0, 1);
    }

    private static void neededWhat() {
        about("18: what = 0 how many TRIES, 1 the BATH, 2 the SET of the first. OUTSIDE");
        BathWater x = with(BLUNT + "bath 1 1 0 0;" + bathers(6, 10));
        needed(x, 1 | 64, 1, 1, 32);
        for (int what : new int[] {-1, 3, 4, LEAST, MOST}) {
            due("needed(3, " + what + ")", x.needed(3, what), OUTSIDE);
            due("needed(0, " + what + ")", x.needed(0, what), OUTSIDE);
            due("needed(8192, " + what + ")", x.needed(8192, what), UNKNOWN);
        }
    }

    private static void neededAtWorst() {
        about("3: the fewest TRIES by which it is known at worst which it is");
        BathWater x = with(FINE + bathers(6, 10));
        int[] odd = {0, 2, 6, 14, 30, 62, 126};
        int[] tries = {0, 0, 1, 2, 2, 3, 3};
        for (int n = 1; n <= 6; n++) {
            due("needed(), one of " + n + " is odd", x.needed(odd[n], 0), tries[n]);
            due("needed(), one of " + n + " holds the rail", x.needed(odd[n] << 6, 0), tries[n]);
        }
        int[] orNone = {0, 1, 2, 2, 3, 3, 3};
        for (int n = 1; n <= 6; n++) {
            due("needed(), one of " + n + " is odd, or none", x.needed(odd[n] | 1, 0), orNone[n]);
        }
    }

    private static void neededOfAll() {
        about("3: MORNINGS NEEDED for all 13 cases");
        needed(with(FINE + bathers(6, 10)), ALL_CASES, 3, 0, 7);
        needed(with(FINE + bathers(1, 10)), 1 | 2 | 128, 1, 0, 1);
        needed(with(FINE + bathers(2, 10)), 1 | 2 | 4 | 128 | 256, 2, 0, 1);
        BathWater many = with("bath 12 1 58 0;odd 1;" + sized(1, 1, 1, 5, 1, 1));
        needed(many, ALL_CASES, 9, 0, 1);
        needed(many, 127, 5, 0, 1);
        needed(many, 8129, 5, 0, 3);
        BathWater four = with("bath 21 1 5 0;odd 1;" + sized(1, 4, 2, 6, 6, 7));
        needed(four, ALL_CASES, 4, 0, 26);
        needed(four, 127, 3, 0, 29);
        needed(four, 8129, 3, 0, 26);
    }

    private static void neededByTheHouse() {
        about("3: house(): CASES, TRIES are those of THE HOUSE");
        String[] houses = {"bath 12 1 58 0;odd 1;" + sized(1, 1, 1, 5, 1, 1), FINE + bathers(6, 10), "bath 1 1 0 0;",
            BLUNT + bathers(6, 999), "bath 21 1 5 0;odd 1;" + sized(1, 4, 2, 6, 6, 7), FINE + bathers(1, 10)};
        int[] cases = {ALL_CASES, ALL_CASES, 1, ALL_CASES, ALL_CASES, 1 | 2 | 128};
        int[] tries = {9, 3, 0, 0, 4, 1};
        int[] away = {0, NONE, NONE, NONE, 0, NONE};
        BathWater x = new BathWater();
        for (int round = 0; round < 2; round++) {
            for (int i = 0; i < houses.length; i++) {
                put(x, houses[i]);
                x.house();
                due("needed(" + cases[i] + ", 0) in '" + houses[i] + "'", x.needed(cases[i], 0), tries[i]);
                due("away() in '" + houses[i] + "'", x.away(), away[i]);
                put(x, "!");
                x.house();
                due("needed(" + cases[i] + ", 0) behind a FAULT", x.needed(cases[i], 0), tries[i]);
            }
        }
        put(x, houses[1]);
        x.house();
        due("away()", x.away(), NONE);
        put(x, "bath 20 1 6 0;odd 4;" + sized(6, 1, 5, 1, 8, 3));
        x.house();
        needed(x, 128 | 512, 1, 0, 17);
    }

    private static void firstTheLesserBath() {
        about("3: FIRST: the lesser BATH ahead");
        needed(with("bath 1 1 0 0;bath 1 1 0 0;" + bathers(1, 10)), 3, 1, 0, 1);
        needed(with("bath 10 1 0 0;bath 1 1 0 0;odd 5;bather 1 9 2 0;bather 1 9 3 0;"), 3, 1, 0, 3);
        needed(with("bath 1 1 0 0;bath 10 1 0 0;odd 5;bather 1 9 2 0;bather 1 9 3 0;"), 3, 1, 0, 1);
        needed(with("bath 11 1 0 0;bath 1 1 0 0;odd 5;bather 1 9 2 0;bather 1 9 3 0;"), 3, 1, 1, 1);
    }

    private static void firstTheLesserSet() {
        about("3: FIRST: then the lesser SET");
        BathWater x = with(FINE + bathers(6, 10));
        for (int k = 0; k < 6; k++) {
            needed(x, 1 | 2 << k, 1, 0, 1 << k);
            needed(x, 1 | 128 << k, 1, 0, 1 << k);
        }
        needed(x, 2 | 64, 1, 0, 1);
        needed(x, 32 | 64, 1, 0, 16);
        BathWater all = with("bath 60 1 0 0;odd 5;" + bathers(5, 9) + "bather 1 99 10 0;");
        needed(all, 1 | 2, 1, 0, 63);
    }

    private static void firstByWhichSoFewAreEnough() {
        about("3: FIRST: the first TRY by which so few are enough");
        BathWater x = with(FINE + bathers(6, 10));
        needed(x, 2 | 4 | 8 | 16, 2, 0, 3);
        needed(x, 2 | 4 | 8, 2, 0, 1);
        BathWater two = with("bath 15 1 0 0;bath 1 1 0 0;odd 5;" + bathers(4, 10));
        needed(two, 2 | 4, 1, 0, 1);
        needed(two, 2 | 4 | 8 | 16, 2, 1, 3);
    }

    // ---- AWAY

    private static void awayNone() {
        about("19: NONE");
        due("away() of a new one", new BathWater().away(), NONE);
        due("away() without BATHERS", with(FINE).away(), NONE);
        due("away() without BATHS", with(bathers(6, 10)).away(), NONE);
        due("away() of one", with(FINE + bathers(1, 10)).away(), NONE);
        for (int n = 2; n <= 6; n++) {
            due("away() of " + n + ", each shows alone", with(FINE + bathers(n, 10)).away(), NONE);
            due("away() of " + n + ", nothing shows", with(BLUNT + bathers(n, 10)).away(), NONE);
        }
    }

    private static void awayTheLeast() {
        about("3: AWAY: the least BATHER who, left out of all SETS, makes that no TRY parts two");
        due("away(), each of three", with("bath 10 1 0 0;odd 5;bather 1 9 3 0;bather 1 9 3 0;bather 1 9 2 0;").away(), 0);
        due("away(), the first of two", with("bath 10 1 0 0;bather 1 99 5 0;bather 1 99 10 0;").away(), 0);
        due("away(), the second of two", with("bath 10 1 0 0;bather 1 99 10 0;bather 1 99 5 0;").away(), 1);
        // Who has 95 shows alone; whether one has 50 and another 45 shows by them, and the other 50, alone.
        String bath = "bath 50 2 0 0;odd 5;";
        due("away(), of two pairs of six", with(bath + sized(50, 50, 45, 95, 95, 95)).away(), 0);
        due("away(), of two pairs of six", with(bath + sized(95, 50, 50, 45, 95, 95)).away(), 1);
        due("away(), of two pairs of six", with(bath + sized(95, 95, 50, 50, 45, 95)).away(), 2);
        due("away(), of two pairs of six", with(bath + sized(95, 95, 95, 50, 50, 45)).away(), 3);
        due("away(), of two pairs of six", with(bath + sized(95, 95, 95, 45, 50, 50)).away(), 3);
        due("away(), all show alone", with(bath + sized(95, 95, 95, 95, 95, 95)).away(), NONE);
    }

    private static void awayTheLast() {
        about("3: AWAY: BATHER 5");
        due("away()", with("bath 10 1 0 0;" + bathers(5, 10) + bathers(1, 5)).away(), 5);
        due("away(), 4 to go by", with("bath 10 1 0 0;" + bathers(5, 10) + bathers(1, 4)).away(), NONE);
        due("away(), by the other BATH too", with("bath 10 1 0 0;bath 10 1 5 0;" + bathers(5, 10) + bathers(1, 5)).away(), NONE);
        due("away(), the other BATH is like it", with("bath 10 1 0 0;bath 5 2 0 9;" + bathers(5, 10) + bathers(1, 5)).away(), 5);
    }

    private static void awayOfCasesOneToSix() {
        about("3: AWAY: two of the cases 1 to 6");
        due("away(), one who is odd or none", with("bath 10 1 0 0;bather 1 9 5 0;").away(), NONE);
        due("away(), one at the rail", with("bath 10 1 0 0;odd 1;bather 1 99 10 0;bather 1 9 1 0;").away(), NONE);
        due("away(), two at the rail", with("bath 20 1 0 0;odd 1;bather 1 99 10 0;bather 1 99 10 0;").away(), NONE);
    }

    // ---- CALLED IN

    private static void calledAboveG() {
        about("3: each BATHER whose upper END less the lower one is above g");
        String house = "bath 1 1 0 0;bather 5 5 5 0;bather 10 11 10 0;bather 20 30 25 0;bather 1 999 500 0;";
        BathWater x = with(house);
        int[] g = {0, 1, 2, 9, 10, 11, 997, 998, 999};
        int[] many = {3, 2, 2, 2, 1, 1, 1, 0, 0};
        int[] widest = {0, 1, 1, 1, 10, 10, 10, 998, 998};
        for (int i = 0; i < g.length; i++) {
            due("called(" + g[i] + ", 0)", x.called(g[i], 0), many[i]);
            due("called(" + g[i] + ", 1)", x.called(g[i], 1), widest[i]);
        }
        x.morning(0, 0, 8, 500);
        due("called(0, 0), NARROWED", x.called(0, 0), 2);
        due("called(10, 1), NARROWED", x.called(10, 1), 10);
        due("called(0, 0) of six", with("bath 1 1 0 0;" + bathers(6, 10)).called(0, 0), 6);
    }

    private static void calledWhat() {
        about("20: CALLED IN for g (0 .. 999): what = 0 how many TRIES, 1 the widest. OUTSIDE");
        BathWater x = with("bath 1 1 0 0;" + bathers(2, 10));
        for (int far : FAR) {
            due("called(" + far + ", 0)", x.called(far, 0), OUTSIDE);
            due("called(0, " + far + ")", x.called(0, far), OUTSIDE);
        }
        due("called(1000, 0)", x.called(1000, 0), OUTSIDE);
        due("called(1000, 1)", x.called(1000, 1), OUTSIDE);
        due("called(0, 2)", x.called(0, 2), OUTSIDE);
        due("called(999, 0)", x.called(999, 0), 0);
        due("called(999, 1)", x.called(999, 1), 998);
        due("called(0, 0)", x.called(0, 0), 2);
        due("called(0, 1)", x.called(0, 1), 0);
    }

    private static void calledWithoutBaths() {
        about("20: NOT: no BATHS; OUTSIDE ahead of it");
        BathWater[] all = {new BathWater(), with(bathers(2, 10))};
        for (BathWater x : all) {
            due("called(0, 0)", x.called(0, 0), NOT);
            due("called(999, 1)", x.called(999, 1), NOT);
            due("called(-1, 0)", x.called(-1, 0), OUTSIDE);
            due("called(1000, 0)", x.called(1000, 0), OUTSIDE);
            due("called(0, -1)", x.called(0, -1), OUTSIDE);
            due("called(0, 2)", x.called(0, 2), OUTSIDE);
        }
    }

    private static void calledWithoutBathers() {
        about("20: CALLED IN of no BATHERS");
        BathWater x = with("bath 1 1 0 0;");
        due("called(0, 0)", x.called(0, 0), 0);
        due("called(0, 1)", x.called(0, 1), 0);
        due("called(999, 1)", x.called(999, 1), 0);
    }

    private static void calledInTheFinestBath() {
        about("3: in the BATH with the least AREA times FINGER (of like ones the lesser)");
        String bather = "bather 1 999 100 0;";
        due("called(0, 1), 6 and 5", with("bath 2 3 0 0;bath 5 1 0 0;" + bather).called(0, 1), 4);
        due("called(0, 1), 5 and 6", with("bath 5 1 0 0;bath 2 3 0 0;" + bather).called(0, 1), 4);
        due("called(0, 1), 99 times 1 and 1 times 98", with("bath 99 1 0 0;bath 1 98 0 0;" + bather).called(0, 1), 97);
        due("called(0, 1), 98 times 1 and 1 times 99", with("bath 98 1 0 0;bath 1 99 0 0;" + bather).called(0, 1), 97);
        // A SIZE of 100 .. 107 or of 95 .. 102: the former's lower END is the bather's own.
        String near = "bather 100 999 100 0;";
        due("called(0, 1), like ones", with("bath 2 4 4 0;bath 4 2 1 0;" + near).called(0, 1), 7);
        due("called(0, 1), like ones", with("bath 4 2 1 0;bath 2 4 4 0;" + near).called(0, 1), 2);
    }

    private static void calledAtHourZero() {
        about("3: CALLED IN, one alone at HOUR 0");
        String bathers = "bather 1 999 100 0;bather 1 999 100 0;";
        BathWater x = with("bath 10 1 5 1;" + bathers);
        due("called(998, 0)", x.called(998, 0), 0);
        due("called(0, 0)", x.called(0, 0), 2);
        due("called(0, 1), 95 .. 104", x.called(0, 1), 9);
        due("called(0, 1), 100 .. 104 at HOUR 0", with("bath 10 1 5 1;bather 100 999 100 0;").called(0, 1), 4);
        due("called(0, 1), 1 .. 4, the water counts", with("bath 10 1 95 9;bather 1 999 2 0;").called(0, 1), 3);
    }

    private static void calledWidest() {
        about("3: the widest then (upper END less the lower one, of all BATHERS)");
        BathWater x = with("bath 99 1 0 0;bather 1 50 20 0;bather 1 999 500 0;");
        due("called(998, 1), nobody", x.called(998, 1), 998);
        due("called(997, 1), 495 .. 593", x.called(997, 1), 98);
        due("called(48, 1), one cut by nothing more", x.called(48, 1), 98);
        BathWater own = with("bath 99 1 0 0;bather 1 50 20 0;bather 480 999 500 0;");
        due("called(40, 1), its own ENDS kept", own.called(40, 1), 98);
        BathWater blunt = with("bath 99 99 0 0;bather 1 50 20 0;");
        due("called(0, 0), in vain", blunt.called(0, 0), 1);
        due("called(0, 1), in vain", blunt.called(0, 1), 49);
        due("called(0, 1), none is wide", with("bath 1 1 0 0;bather 9 9 9 0;").called(0, 1), 0);
    }

    private static void calledZeroAtLeast() {
        about("20: the widest (0 at least)");
        BathWater x = with("bath 1 1 0 0;bath 10 1 0 0;bather 1 999 500 0;");
        x.morning(1, 0, 1, 2);
        due("called(8, 0), 20 .. 29 not being true", x.called(8, 0), 1);
        due("called(8, 1), 20 .. 29 not being true", x.called(8, 1), 0);
        due("called(9, 0)", x.called(9, 0), 0);
        due("called(9, 1)", x.called(9, 1), 9);
        BathWater above = with("bath 1 1 0 0;bath 10 1 0 0;bather 1 999 500 0;");
        above.morning(1, 0, 1, 70);
        due("called(0, 1), 700 .. 709 not being true", above.called(0, 1), 0);
    }
}
