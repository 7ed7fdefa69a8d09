/** HEIGHT, MORNINGS and what is learnt from them, sentence by sentence: bounds, one below, one above, none and all. */
public final class MorningBoundaryTest extends Asker {
    private static final int[] FAR = {-1, -2, LEAST, LEAST + 1, MOST - 1, MOST};
    /** Ends as wide as they can be, each size a finger. */
    private static final String WIDE = "bath 1 1 0 0;" + times(6, "bather 1 999 500 50;");
    private static final String ONE = "bath 10 1 0 0;bather 1 999 55 50;";

    public static void main(String[] args) {
        hoursAndSets();
        waterIsZeroAtLeast();
        heightIsCut();
        heightsFarOut();
        leastAndGreatest();
        noSizeHasIt();
        spanFarOut();
        spanRefuses();
        twelveMornings();
        boundsOfAMorning();
        numbersOfMornings();
        endsAtFirst();
        endsFromLeastToGreatest();
        endsAreZeroAndOn();
        onlyIfMoreOrLess();
        lessTheOthers();
        againFromTheFirst();
        clashOfLowerAboveUpper();
        clashOfTwoTogether();
        clashOfOneWithoutBathers();
        clashOfAHeightThatNoneHas();
        clashLeavesEndsAsAtFirst();
        falseWithoutAClash();
        falseFewest();
        falseOfLikeOnesTheLeast();
        falseOfTwelve();
        falseOfFewInABathOfWater();
        canBeAtTheEndsOfSums();
        canBeNobody();
        canBeAll();
        canBeTheIth();
        byTheHeightOfItsBathAndHour();
        likelyFromNoneToMillion();
        likelyWithoutAny();
        likelyIsCut();
        oddsFromZeroToBillion();
        oddsAreCutEachTime();
        forgetHowMany();
        finish();
    }

    private static void ends(BathWater x, int k, int lower, int upper) {
        due("bather(" + k + ", 4)", x.bather(k, 4), lower);
        due("bather(" + k + ", 5)", x.bather(k, 5), upper);
    }

    // ---- HEIGHT

    private static void hoursAndSets() {
        about("8: HEIGHT at HOUR h (0 .. 99), of a SET. UNKNOWN, OUTSIDE");
        BathWater x = with("bath 1 1 9999 1;bather 1 9 4 0;bather 1 99 30 0;");
        int[] sums = {0, 4, 30, 34};
        for (int set = 0; set < 4; set++) {
            due("height(0, 0, " + set + ")", x.height(0, 0, set), 9999 + sums[set]);
            due("height(0, 99, " + set + ")", x.height(0, 99, set), 9900 + sums[set]);
        }
        for (int far : FAR) {
            due("height(0, " + far + ", 3)", x.height(0, far, 3), OUTSIDE);
            due("height(0, 0, " + far + ")", x.height(0, 0, far), UNKNOWN);
            due("height(" + far + ", 0, 0)", x.height(far, 0, 0), UNKNOWN);
            due("height(0, " + far + ", 4)", x.height(0, far, 4), UNKNOWN);
        }
        due("height(0, 100, 3)", x.height(0, 100, 3), OUTSIDE);
        due("height(0, 0, 4)", x.height(0, 0, 4), UNKNOWN);
        due("height(1, 0, 0)", x.height(1, 0, 0), UNKNOWN);
        due("height(1, 100, 0)", x.height(1, 100, 0), UNKNOWN);
        BathWater nobody = with("bath 1 1 7 0;");
        due("height(0, 0, 0) without BATHERS", nobody.height(0, 0, 0), 7);
        due("height(0, 0, 1) without BATHERS", nobody.height(0, 0, 1), UNKNOWN);
        BathWater six = with(WIDE);
        due("height(0, 0, 63)", six.height(0, 0, 63), 3000);
        due("height(0, 0, 64)", six.height(0, 0, 64), UNKNOWN);
    }

    private static void waterIsZeroAtLeast() {
        about("2: WATER less LEAK times h (0 at least)");
        BathWater x = with("bath 1 1 99 1;bath 1 1 98 1;bather 1 9 9 0;");
        due("height(0, 98, 0)", x.height(0, 98, 0), 1);
        due("height(0, 99, 0)", x.height(0, 99, 0), 0);
        due("height(1, 97, 0)", x.height(1, 97, 0), 1);
        due("height(1, 98, 0)", x.height(1, 98, 0), 0);
        due("height(1, 99, 0)", x.height(1, 99, 0), 0);
        due("height(1, 98, 1)", x.height(1, 98, 1), 9);
        due("height(1, 99, 1)", x.height(1, 99, 1), 9);
        BathWater fast = with("bath 1 1 9999 99;bath 1 1 0 99;bather 1 9 9 0;");
        due("height(0, 99, 1)", fast.height(0, 99, 1), 9999 - 9801 + 9);
        due("height(1, 1, 1)", fast.height(1, 1, 1), 9);
        due("height(1, 99, 1)", fast.height(1, 99, 1), 9);
    }

    private static void heightIsCut() {
        about("2: in FINGERS: / (AREA times FINGER), cut");
        BathWater x = with("bath 3 4 12 1;bather 1 99 11 0;bather 1 99 12 0;bather 1 99 13 0;");
        due("water of one finger", x.height(0, 0, 0), 1);
        due("one less", x.height(0, 1, 0), 0);
        due("none", x.height(0, 12, 0), 0);
        due("11 more than none", x.height(0, 12, 1), 0);
        due("12 more than none", x.height(0, 12, 2), 1);
        due("13 more than none", x.height(0, 12, 4), 1);
        due("11 and 12 more than none", x.height(0, 12, 3), 1);
        due("11 and 13 more than none", x.height(0, 12, 5), 2);
        due("11 more than one finger", x.height(0, 0, 1), 1);
        due("12 more than one finger", x.height(0, 0, 2), 2);
    }

    private static void heightsFarOut() {
        about("2: HEIGHT of the greatest and the least");
        BathWater x = with("bath 1 1 9999 0;bath 99 99 9801 0;" + times(6, "bather 999 999 999 0;"));
        due("height(0, 0, 63)", x.height(0, 0, 63), 15993);
        due("height(0, 99, 63)", x.height(0, 99, 63), 15993);
        due("height(1, 0, 0)", x.height(1, 0, 0), 1);
        due("height(1, 0, 63)", x.height(1, 0, 63), 1);
        BathWater y = with("bath 99 99 9800 0;bath 99 99 9999 0;bather 1 1 1 0;");
        due("9800 of 9801", y.height(0, 0, 0), 0);
        due("9801 of 9801", y.height(0, 0, 1), 1);
        due("9999 of 9801", y.height(1, 0, 0), 1);
    }

    private static void span(BathWater x, int hour, int height, int least, int greatest) {
        due("span(0, " + hour + ", " + height + ", 0)", x.span(0, hour, height, 0), least);
        due("span(0, " + hour + ", " + height + ", 1)", x.span(0, hour, height, 1), greatest);
    }

    private static void leastAndGreatest() {
        about("9: what = 0 the least, 1 the greatest (0 at least both)");
        BathWater x = with("bath 5 1 10 1;");
        span(x, 0, 2, 0, 4);
        span(x, 0, 3, 5, 9);
        span(x, 0, 4, 10, 14);
        span(x, 1, 2, 1, 5);
        span(x, 1, 1, 0, 0);
        span(x, 2, 1, 0, 1);
        span(x, 5, 1, 0, 4);
        span(x, 10, 0, 0, 4);
        span(x, 11, 0, 0, 4);
        span(x, 99, 0, 0, 4);
        BathWater each = with("bath 1 1 3 0;");
        span(each, 0, 3, 0, 0);
        span(each, 0, 4, 1, 1);
    }

    private static void noSizeHasIt() {
        about("9: NONE: none");
        BathWater x = with("bath 5 1 10 1;");
        span(x, 0, 1, NONE, NONE);
        span(x, 0, 0, NONE, NONE);
        span(x, 1, 0, NONE, NONE);
        span(x, 5, 0, NONE, NONE);
        span(x, 6, 0, 0, 0);
        span(x, 7, 0, 0, 1);
        BathWater each = with("bath 1 1 3 0;");
        span(each, 0, 2, NONE, NONE);
        span(each, 99, 2, NONE, NONE);
    }

    private static void spanFarOut() {
        about("9: HEIGHT 0 .. 99999");
        BathWater x = with("bath 99 99 0 0;");
        span(x, 0, 99999, 980090199, 980099999);
        span(x, 99, 99998, 980080398, 980090198);
        span(x, 0, 0, 0, 9800);
        span(x, 0, 1, 9801, 19601);
        BathWater full = with("bath 1 1 9999 99;");
        span(full, 0, 99999, 90000, 90000);
        span(full, 99, 99999, 99801, 99801);
        span(full, 0, 9999, 0, 0);
        span(full, 0, 9998, NONE, NONE);
    }

    private static void spanRefuses() {
        about("9: UNKNOWN, OUTSIDE");
        BathWater x = with("bath 5 1 10 1;");
        for (int far : FAR) {
            due("span(0, 0, " + far + ", 0)", x.span(0, 0, far, 0), OUTSIDE);
            due("span(0, " + far + ", 2, 0)", x.span(0, far, 2, 0), OUTSIDE);
            due("span(0, 0, 2, " + far + ")", x.span(0, 0, 2, far), OUTSIDE);
            due("span(" + far + ", 0, 2, 0)", x.span(far, 0, 2, 0), UNKNOWN);
            due("span(1, " + far + ", 2, 0)", x.span(1, far, 2, 0), UNKNOWN);
        }
        due("span(0, 0, 100000, 0)", x.span(0, 0, 100000, 0), OUTSIDE);
        due("span(0, 100, 2, 0)", x.span(0, 100, 2, 0), OUTSIDE);
        due("span(0, 0, 2, 2)", x.span(0, 0, 2, 2), OUTSIDE);
        due("span(1, 0, 2, 0)", x.span(1, 0, 2, 0), UNKNOWN);
    }

    // ---- MORNINGS and ENDS

    private static void twelveMornings() {
        about("2: A MORNING (12 at most); 10: FULL (12)");
        BathWater x = with(WIDE);
        for (int i = 1; i <= 12; i++) {
            due("morning " + i, x.morning(0, 0, 1, 500), i);
            due("told(3)", x.told(3), i);
        }
        due("morning 13", x.morning(0, 0, 1, 500), FULL);
        due("told(3)", x.told(3), 12);
        due("strike(11)", x.strike(11), 11);
        due("morning 12", x.morning(0, 0, 2, 400), 12);
        ends(x, 1, 400, 400);
        due("morning 13", x.morning(0, 0, 2, 401), FULL);
        due("told(6)", x.told(6), 0);
        due("forget()", x.forget(), 12);
        due("morning 1", x.morning(0, 0, 1, 500), 1);
    }

    private static void boundsOfAMorning() {
        about("2: a BATH, an HOUR, a SET, the HEIGHT told (0 .. 99999)");
        BathWater x = with("bath 1 1 5 0;bath 1 1 0 0;bather 1 9 4 0;bather 1 9 4 0;");
        for (int far : FAR) {
            due("morning(0, 0, 3, " + far + ")", x.morning(0, 0, 3, far), OUTSIDE);
            due("morning(0, " + far + ", 3, 9)", x.morning(0, far, 3, 9), OUTSIDE);
            due("morning(0, 0, " + far + ", 9)", x.morning(0, 0, far, 9), UNKNOWN);
            due("morning(" + far + ", 0, 3, 9)", x.morning(far, 0, 3, 9), UNKNOWN);
        }
        due("morning(0, 0, 3, 100000)", x.morning(0, 0, 3, 100000), OUTSIDE);
        due("morning(0, 100, 3, 9)", x.morning(0, 100, 3, 9), OUTSIDE);
        due("morning(0, 0, 4, 9)", x.morning(0, 0, 4, 9), UNKNOWN);
        due("morning(2, 0, 3, 9)", x.morning(2, 0, 3, 9), UNKNOWN);
        due("told(3)", x.told(3), 0);
        due("morning(0, 0, 0, 0)", x.morning(0, 0, 0, 0), 1);
        due("morning(1, 99, 3, 99999)", x.morning(1, 99, 3, 99999), 2);
        due("morning(0, 99, 3, 99998)", x.morning(0, 99, 3, 99998), 3);
        due("morning(1, 0, 1, 1)", x.morning(1, 0, 1, 1), 4);
    }

    private static void numbersOfMornings() {
        about("11: MORNING i is told no more, those behind it move up: how many are left. UNKNOWN");
        BathWater x = with(WIDE);
        for (int i : FAR) {
            due("strike(" + i + ") of none", x.strike(i), UNKNOWN);
        }
        due("strike(0) of none", x.strike(0), UNKNOWN);
        for (int i = 0; i < 12; i++) {
            x.morning(0, 0, 1 << i % 6, i < 6 ? 101 + i : 201 + i);
        }
        due("wrong()", x.wrong(), 63);
        due("strike(12)", x.strike(12), UNKNOWN);
        due("strike(13)", x.strike(13), UNKNOWN);
        due("strike(11), the last", x.strike(11), 11);
        due("wrong()", x.wrong(), 31);
        due("strike(11)", x.strike(11), UNKNOWN);
        due("strike(0), the first", x.strike(0), 10);
        due("wrong(), moved up", x.wrong(), 15);
        due("strike(5), one between", x.strike(5), 9);
        due("wrong(), those ahead as before", x.wrong(), 15);
        due("strike(8), the last", x.strike(8), 8);
        due("wrong()", x.wrong(), 7);
        for (int left = 7; left >= 0; left--) {
            due("strike(0)", x.strike(0), left);
        }
        due("strike(0) of none", x.strike(0), UNKNOWN);
        ends(x, 0, 1, 999);
    }

    private static void endsAtFirst() {
        about("2: ENDS of each BATHER: U, V at first");
        BathWater x = with(WIDE);
        for (int k = 0; k < 6; k++) {
            ends(x, k, 1, 999);
        }
        ends(with("bather 7 7 7 0;"), 0, 7, 7);
    }

    private static void told(int height, int lower, int upper) {
        BathWater x = with(ONE);
        x.morning(0, 0, 1, height);
        ends(x, 0, lower, upper);
        due("told(6)", x.told(6), 0);
    }

    private static void endsFromLeastToGreatest() {
        about("2: SIZES of the SET be, together, from the least to the greatest s of that HEIGHT");
        told(0, 1, 9);
        told(1, 10, 19);
        told(5, 50, 59);
        told(98, 980, 989);
        told(99, 990, 999);
    }

    private static void endsAreZeroAndOn() {
        about("2: the least to the greatest s (0 and on)");
        BathWater x = with("bath 10 1 15 0;bather 1 999 4 0;bather 1 999 5 0;");
        x.morning(0, 0, 1, 1);
        ends(x, 0, 1, 4);
        x.morning(0, 0, 3, 1);
        ends(x, 0, 1, 3);
        ends(x, 1, 1, 3);
        due("told(6)", x.told(6), 0);
        x.morning(0, 0, 2, 2);
        due("told(6), 5 at least", x.told(6), 1);
    }

    private static void onlyIfMoreOrLess() {
        about("2: its lower END becomes, if that is more; its upper END, if that is less");
        String[] bathers = {"50 59", "51 58", "49 60", "55 55", "50 50", "59 59", "1 50", "59 999"};
        int[][] due = {{50, 59}, {51, 58}, {50, 59}, {55, 55}, {50, 50}, {59, 59}, {50, 50}, {59, 59}};
        for (int i = 0; i < due.length; i++) {
            String least = bathers[i].substring(0, bathers[i].indexOf(' '));
            BathWater x = with("bath 10 1 0 0;bather " + bathers[i] + " " + least + " 0;");
            x.morning(0, 0, 1, 5);
            ends(x, 0, due[i][0], due[i][1]);
            due("told(6) of " + bathers[i], x.told(6), 0);
        }
    }

    private static void lessTheOthers() {
        about("2: the least s less the upper ENDS of the others; the greatest s less their lower ENDS");
        BathWater x = with("bath 10 1 0 0;bather 1 100 50 0;bather 10 30 20 0;bather 5 15 10 0;bather 1 999 1 0;");
        x.morning(0, 0, 7, 14);
        ends(x, 0, 140 - 45, 100);
        ends(x, 1, 140 - 115, 30);
        ends(x, 2, 140 - 130, 15);
        ends(x, 3, 1, 999);
        BathWater y = with("bath 10 1 0 0;bather 1 100 50 0;bather 10 30 20 0;bather 5 15 10 0;bather 1 999 1 0;");
        y.morning(0, 0, 7, 2);
        ends(y, 0, 1, 29 - 15);
        ends(y, 1, 10, 29 - 6);
        ends(y, 2, 5, 15);
        y.morning(0, 0, 7, 1);
        ends(y, 0, 1, 4);
        ends(y, 1, 10, 13);
        ends(y, 2, 5, 8);
    }

    private static void againFromTheFirst() {
        about("2: and again from the first MORNING on, till nothing changes");
        BathWater x = with(WIDE);
        for (int k = 0; k < 5; k++) {
            x.morning(0, 0, 3 << k, 1000);
        }
        ends(x, 0, 1, 999);
        x.morning(0, 0, 32, 300);
        int[] size = {700, 300, 700, 300, 700, 300};
        for (int k = 0; k < 6; k++) {
            ends(x, k, size[k], size[k]);
        }
        due("told(6)", x.told(6), 0);
        BathWater slow = with(WIDE);
        slow.morning(0, 0, 3, 1000);
        slow.morning(0, 0, 6, 1000);
        slow.morning(0, 0, 5, 1000);
        ends(slow, 0, 1, 999);
        slow.morning(0, 0, 5, 1001);
        due("told(6), by one a round till none is left", slow.told(6), 1);
        due("wrong()", slow.wrong(), 4);
    }

    // ---- CLASH

    private static void clash(String bather, int height, int clash) {
        BathWater x = with("bath 10 1 0 0;bather " + bather + ";");
        x.morning(0, 0, 1, height);
        due("told(6) of " + bather + " by " + height, x.told(6), clash);
    }

    private static void clashOfLowerAboveUpper() {
        about("2: some BATHER's lower END is above the upper (CLASH)");
        clash("1 49 1 0", 5, 1);
        clash("1 50 1 0", 5, 0);
        clash("59 99 59 0", 5, 0);
        clash("60 99 60 0", 5, 1);
        clash("1 999 1 0", 99, 0);
        clash("1 999 1 0", 100, 1);
        clash("10 999 10 0", 1, 0);
        clash("10 999 10 0", 0, 1);
        clash("999 999 999 0", 99, 0);
        clash("1 1 1 0", 0, 0);
        clash("1 999 1 0", 99999, 1);
    }

    private static void clashOfTwoTogether() {
        about("2: CLASH of a SET together");
        for (int height = 29; height <= 61; height++) {
            BathWater x = with("bath 1 1 0 0;bather 10 20 10 0;bather 20 40 20 0;");
            x.morning(0, 0, 3, height);
            boolean can = height >= 30 && height <= 60;
            due("told(6) by " + height, x.told(6), can ? 0 : 1);
            ends(x, 0, can ? Math.max(10, height - 40) : 10, can ? Math.min(20, height - 20) : 20);
        }
    }

    private static void clashOfOneWithoutBathers() {
        about("2: one without BATHERS whose least s is not 0: CLASH");
        int[] clash = {1, 1, 0, 1, 1};
        for (int height = 0; height <= 4; height++) {
            BathWater x = with("bath 5 1 10 0;bather 1 999 1 0;");
            x.morning(0, 0, 0, height);
            due("told(6) by " + height, x.told(6), clash[height]);
        }
        BathWater inPart = with("bath 5 1 14 0;");
        inPart.morning(0, 0, 0, 2);
        due("told(6), 0 alone has it", inPart.told(6), 0);
        inPart.morning(0, 0, 0, 3);
        due("told(6), 1 at least has it", inPart.told(6), 1);
        BathWater dry = with("bath 1 1 9 9;");
        dry.morning(0, 1, 0, 0);
        due("told(6), no water", dry.told(6), 0);
        dry.morning(0, 99, 0, 0);
        due("told(6), long no water", dry.told(6), 0);
        dry.morning(0, 99, 0, 1);
        due("told(6), no water, a finger", dry.told(6), 1);
    }

    private static void clashOfAHeightThatNoneHas() {
        about("2: A MORNING whose HEIGHT no s has: CLASH");
        for (int set = 0; set <= 1; set++) {
            BathWater x = with("bath 5 1 10 1;bather 1 999 1 0;");
            x.morning(0, 0, set, 1);
            due("told(6), -1 at most", x.told(6), 1);
            ends(x, 0, 1, 999);
            BathWater y = with("bath 5 1 10 1;bather 1 999 1 0;");
            y.morning(0, 1, set, 1);
            due("told(6), 0 at most", y.told(6), set);
        }
        BathWater z = with("bath 5 1 10 1;bather 1 999 1 0;");
        z.morning(0, 2, 1, 1);
        due("told(6), 1 at most", z.told(6), 0);
        ends(z, 0, 1, 1);
    }

    private static void clashLeavesEndsAsAtFirst() {
        about("2: CLASH: ENDS stay then as at first for all that asks for them");
        BathWater x = with("bath 1 1 0 0;bather 10 20 15 50;bather 30 40 35 50;");
        x.morning(0, 0, 1, 15);
        ends(x, 0, 15, 15);
        due("canBe(0, 0, 20, -1)", x.canBe(0, 0, 20, -1), 0);
        due("likely(0, 0, 20, 0)", x.likely(0, 0, 20, 0), 0);
        due("called(5, 0)", x.called(5, 0), 1);
        x.morning(0, 0, 2, 41);
        due("told(6)", x.told(6), 1);
        ends(x, 0, 10, 20);
        ends(x, 1, 30, 40);
        due("canBe(0, 0, 20, -1)", x.canBe(0, 0, 20, -1), 1);
        due("likely(0, 0, 20, 0)", x.likely(0, 0, 20, 0), 1000000);
        due("called(5, 0)", x.called(5, 0), 2);
        due("called(10, 1)", x.called(10, 1), 10);
        due("strike(1)", x.strike(1), 1);
        due("told(6)", x.told(6), 0);
        ends(x, 0, 15, 15);
        due("canBe(0, 0, 20, -1)", x.canBe(0, 0, 20, -1), 0);
    }

    // ---- FALSE

    private static void falseWithoutAClash() {
        about("12: FALSE (0 without a CLASH)");
        BathWater x = new BathWater();
        due("wrong() of a new one", x.wrong(), 0);
        put(x, WIDE);
        x.house();
        due("wrong() without MORNINGS", x.wrong(), 0);
        for (int i = 0; i < 12; i++) {
            x.morning(0, 0, 63, 3000);
            due("wrong() without a CLASH", x.wrong(), 0);
        }
    }

    private static void falseFewest() {
        about("2: the SET of fewest MORNINGS without which there is no CLASH");
        for (int one = 0; one < 12; one++) {
            BathWater x = with(WIDE);
            for (int i = 0; i < 12; i++) {
                x.morning(0, 0, 1, i == one ? 501 : 500);
            }
            due("wrong(), one of 12 is", x.wrong(), 1 << one);
            due("wrong() again", x.wrong(), 1 << one);
            x.strike(one);
            due("wrong() without it", x.wrong(), 0);
        }
        BathWater x = with(WIDE);
        x.morning(0, 0, 1, 0);
        due("wrong(), the only one", x.wrong(), 1);
        x.morning(0, 0, 2, 5);
        due("wrong(), the first of two", x.wrong(), 1);
    }

    private static void falseOfLikeOnesTheLeast() {
        about("2: of like ones the least");
        BathWater x = with(WIDE);
        x.morning(0, 0, 1, 500);
        x.morning(0, 0, 1, 501);
        due("wrong(), one of two", x.wrong(), 1);
        x.morning(0, 0, 1, 502);
        due("wrong(), two of three", x.wrong(), 3);
        BathWater y = with(WIDE);
        y.morning(0, 0, 2, 7);
        y.morning(0, 0, 1, 500);
        y.morning(0, 0, 3, 600);
        y.morning(0, 0, 1, 501);
        due("wrong(), 0 and 1, 1 and 2, 2 and 3: the least pair that will do", y.wrong(), 1 | 2);
        BathWater z = with(WIDE);
        z.morning(0, 0, 4, 4);
        z.morning(0, 0, 1, 10);
        z.morning(0, 0, 2, 20);
        z.morning(0, 0, 3, 31);
        due("wrong(), any of three", z.wrong(), 2);
    }

    private static void falseOfTwelve() {
        about("2: FALSE of 12 MORNINGS, all and all but one");
        for (int good = 0; good <= 12; good++) {
            BathWater x = with("bath 1 1 7 0;bather 1 9 1 0;");
            for (int i = 0; i < 12; i++) {
                x.morning(0, 0, 0, i == good ? 7 : 8);
            }
            due("wrong(), all but " + good, x.wrong(), good < 12 ? 4095 - (1 << good) : 4095);
        }
        BathWater each = with(WIDE);
        for (int i = 0; i < 12; i++) {
            each.morning(0, 0, 1, 100 + i);
        }
        due("wrong(), any one may stay", each.wrong(), 2047);
        BathWater half = with(WIDE);
        for (int i = 0; i < 12; i++) {
            half.morning(0, 0, 1, i < 6 ? 100 : 200);
        }
        due("wrong(), the half ahead", half.wrong(), 63);
        half.strike(0);
        due("wrong(), the lesser half", half.wrong(), 31);
        half.morning(0, 0, 1, 100);
        due("wrong(), of two halves the least", half.wrong(), 2016);
    }

    private static void falseOfFewInABathOfWater() {
        about("2: FALSE of MORNINGS that there are, of no others");
        for (int many = 2; many <= 12; many++) {
            BathWater x = with("bath 5 1 10 1;bather 1 999 55 0;");
            for (int i = 0; i < many; i++) {
                x.morning(0, 0, 1, 13 + i / 2);
            }
            int lastTwoAlike = 3 << (many % 2 == 0 ? many - 2 : many - 3);
            due("wrong() of " + many, x.wrong(), (1 << many) - 1 - lastTwoAlike);
        }
    }

    // ---- CAN BE IN, LIKELY, ODDS

    private static void canBeAtTheEndsOfSums() {
        about("2: SETS for which some s from the sum of lower ENDS to that of upper ones has it");
        String house = "bath 10 1 0 0;bather 20 30 25 0;bather 100 160 110 0;";
        // By set: the first and the last HEIGHT of 20 .. 30, 100 .. 160, 120 .. 190.
        int[][] heights = {{0, 0}, {2, 3}, {10, 16}, {12, 19}};
        for (int height = 0; height <= 21; height++) {
            BathWater x = with(house);
            int many = 0;
            for (int set = 0; set < 4; set++) {
                if (height >= heights[set][0] && height <= heights[set][1]) {
                    due("canBe(0, 0, " + height + ", " + many + ")", x.canBe(0, 0, height, many), set);
                    many++;
                }
            }
            due("canBe(0, 0, " + height + ", -1)", x.canBe(0, 0, height, NONE), many);
            due("canBe(0, 0, " + height + ", " + many + ")", x.canBe(0, 0, height, many), NONE);
        }
        BathWater within = with("bath 10 1 0 0;bather 21 28 25 0;");
        due("canBe(0, 0, 2, 0), all of it within the HEIGHT", within.canBe(0, 0, 2, 0), 1);
        BathWater around = with("bath 10 1 0 0;bather 1 999 25 0;");
        due("canBe(0, 0, 2, 0), all of the HEIGHT within it", around.canBe(0, 0, 2, 0), 1);
        BathWater touching = with("bath 10 1 5 0;bather 24 24 24 0;bather 25 25 25 0;bather 34 34 34 0;bather 35 35 35 0;");
        due("canBe(0, 0, 3, -1)", touching.canBe(0, 0, 3, NONE), 2);
        due("canBe(0, 0, 3, 0), s of 25", touching.canBe(0, 0, 3, 0), 2);
        due("canBe(0, 0, 3, 1), s of 34", touching.canBe(0, 0, 3, 1), 4);
    }

    private static void canBeNobody() {
        about("2: CAN BE IN: the SET of nobody, whose s is 0");
        BathWater x = with("bath 5 1 10 1;");
        int[] many = {0, 0, 1, 0};
        for (int height = 0; height <= 3; height++) {
            due("canBe(0, 0, " + height + ", -1) without BATHERS", x.canBe(0, 0, height, NONE), many[height]);
        }
        due("canBe(0, 0, 2, 0)", x.canBe(0, 0, 2, 0), 0);
        due("canBe(0, 1, 1, 0)", x.canBe(0, 1, 1, 0), 0);
        due("canBe(0, 99, 0, 0)", x.canBe(0, 99, 0, 0), 0);
        due("canBe(0, 99, 99999, -1)", x.canBe(0, 99, 99999, NONE), 0);
    }

    private static void canBeAll() {
        about("13: how many SETS, of all 64");
        BathWater x = with("bath 99 99 0 0;" + times(6, "bather 1 999 500 50;"));
        due("canBe(0, 0, 0, -1)", x.canBe(0, 0, 0, NONE), 64);
        for (int i = 0; i < 64; i++) {
            due("canBe(0, 0, 0, " + i + ")", x.canBe(0, 0, 0, i), i);
        }
        due("canBe(0, 0, 0, 64)", x.canBe(0, 0, 0, 64), NONE);
        due("canBe(0, 0, 1, -1)", x.canBe(0, 0, 1, NONE), 0);
    }

    private static void canBeTheIth() {
        about("13: i = NONE how many SETS, else the i-th; NONE: not so many (i below -1, too). UNKNOWN, OUTSIDE");
        BathWater x = with("bath 1 1 0 0;bather 5 5 5 0;bather 5 5 5 0;");
        due("canBe(0, 0, 5, -1)", x.canBe(0, 0, 5, NONE), 2);
        due("canBe(0, 0, 5, 0)", x.canBe(0, 0, 5, 0), 1);
        due("canBe(0, 0, 5, 1)", x.canBe(0, 0, 5, 1), 2);
        for (int i : new int[] {2, 3, 64, MOST, -2, -3, LEAST}) {
            due("canBe(0, 0, 5, " + i + ")", x.canBe(0, 0, 5, i), NONE);
        }
        for (int far : FAR) {
            due("canBe(" + far + ", 0, 5, 0)", x.canBe(far, 0, 5, 0), UNKNOWN);
            due("canBe(0, " + far + ", 5, 0)", x.canBe(0, far, 5, 0), OUTSIDE);
            due("canBe(0, 0, " + far + ", 0)", x.canBe(0, 0, far, 0), OUTSIDE);
            due("canBe(1, " + far + ", 5, " + far + ")", x.canBe(1, far, 5, far), UNKNOWN);
        }
        due("canBe(1, 0, 5, 0)", x.canBe(1, 0, 5, 0), UNKNOWN);
        due("canBe(0, 100, 5, 0)", x.canBe(0, 100, 5, 0), OUTSIDE);
        due("canBe(0, 99, 5, 0)", x.canBe(0, 99, 5, 0), 1);
        due("canBe(0, 0, 100000, 0)", x.canBe(0, 0, 100000, 0), OUTSIDE);
        due("canBe(0, 0, 99999, -1)", x.canBe(0, 0, 99999, NONE), 0);
    }

    private static void byTheHeightOfItsBathAndHour() {
        about("13, 14: by a HEIGHT, of each BATH at each HOUR");
        BathWater x = with("bath 10 1 0 0;bath 1 1 198 2;bather 5 9 7 50;bather 30 35 33 50;");
        for (int hour = 0; hour <= 99; hour++) {
            int water = 198 - 2 * hour;
            due("canBe(1, " + hour + ", ..), nobody", x.canBe(1, hour, water, 0), 0);
            due("canBe(1, " + hour + ", ..), the lesser", x.canBe(1, hour, water + 9, 0), 1);
            due("likely(1, " + hour + ", .., 0)", x.likely(1, hour, water + 9, 0), 1000000);
            due("likely(1, " + hour + ", .., 1)", x.likely(1, hour, water + 10, 1), 0);
        }
        due("canBe(0, 99, 3, -1)", x.canBe(0, 99, 3, NONE), 2);
        due("likely(0, 99, 3, 0)", x.likely(0, 99, 3, 0), 500000);
        due("likely(0, 3, 3, 1)", x.likely(0, 3, 3, 1), 1000000);
    }

    private static void likelyFromNoneToMillion() {
        about("2: LIKELY: of a MILLION. UNKNOWN, OUTSIDE");
        BathWater x = with("bath 99 99 0 0;" + times(5, "bather 1 999 500 100;") + "bather 1 999 500 0;");
        due("likely(0, 0, 0, 0), always", x.likely(0, 0, 0, 0), 1000000);
        due("likely(0, 0, 0, 4), always", x.likely(0, 0, 0, 4), 1000000);
        due("likely(0, 0, 0, 5), never", x.likely(0, 0, 0, 5), 0);
        BathWater half = with("bath 99 99 0 0;" + times(6, "bather 1 999 500 50;"));
        for (int k = 0; k < 6; k++) {
            due("likely(0, 0, 0, " + k + ")", half.likely(0, 0, 0, k), 500000);
        }
        due("likely(0, 99, 0, 0)", half.likely(0, 99, 0, 0), 500000);
        for (int far : FAR) {
            due("likely(0, 0, 0, " + far + ")", half.likely(0, 0, 0, far), UNKNOWN);
            due("likely(" + far + ", 0, 0, 0)", half.likely(far, 0, 0, 0), UNKNOWN);
            due("likely(0, " + far + ", 0, 0)", half.likely(0, far, 0, 0), OUTSIDE);
            due("likely(0, 0, " + far + ", 0)", half.likely(0, 0, far, 0), OUTSIDE);
            due("likely(0, " + far + ", 0, 6)", half.likely(0, far, 0, 6), UNKNOWN);
            due("likely(1, 0, " + far + ", 0)", half.likely(1, 0, far, 0), UNKNOWN);
        }
        due("likely(0, 0, 0, 6)", half.likely(0, 0, 0, 6), UNKNOWN);
        due("likely(1, 0, 0, 0)", half.likely(1, 0, 0, 0), UNKNOWN);
        due("likely(0, 100, 0, 0)", half.likely(0, 100, 0, 0), OUTSIDE);
        due("likely(0, 0, 100000, 0)", half.likely(0, 0, 100000, 0), OUTSIDE);
        due("likely(0, 0, 0, 0) without BATHERS", with("bath 1 1 0 0;").likely(0, 0, 0, 0), UNKNOWN);
    }

    private static void likelyWithoutAny() {
        about("2: LIKELY (0 without any)");
        BathWater x = with("bath 1 1 5 0;bather 9 9 9 100;bather 20 20 20 0;");
        due("likely(0, 0, 4, 0), no SET", x.likely(0, 0, 4, 0), 0);
        due("likely(0, 0, 15, 0), no SET", x.likely(0, 0, 15, 0), 0);
        due("likely(0, 0, 99999, 0), no SET", x.likely(0, 0, 99999, 0), 0);
        due("likely(0, 0, 25, 1), a SET of no ODDS", x.likely(0, 0, 25, 1), 0);
        due("likely(0, 0, 34, 0), a SET of no ODDS", x.likely(0, 0, 34, 0), 0);
        due("likely(0, 0, 5, 0), nobody, of no ODDS", x.likely(0, 0, 5, 0), 0);
        due("likely(0, 0, 14, 0), a SET of all ODDS", x.likely(0, 0, 14, 0), 1000000);
        due("likely(0, 0, 14, 1), a SET of all ODDS", x.likely(0, 0, 14, 1), 0);
    }

    private static void likelyIsCut() {
        about("2: ODDS of those SETS together times MILLION / all of those that CAN, cut");
        BathWater x = with("bath 1 1 0 0;" + times(3, "bather 5 5 5 50;"));
        due("likely(0, 0, 5, 0), one of three", x.likely(0, 0, 5, 0), 333333);
        due("likely(0, 0, 10, 2), two of three", x.likely(0, 0, 10, 2), 666666);
        due("likely(0, 0, 15, 2), all", x.likely(0, 0, 15, 2), 1000000);
        due("likely(0, 0, 0, 2), nobody", x.likely(0, 0, 0, 2), 0);
        BathWater rare = with("bath 1 1 0 0;" + times(4, "bather 5 5 5 1;") + "bather 20 20 20 90;bather 50 50 50 50;");
        due("odds(15), less than 1 of a BILLION", rare.odds(15), 0);
        due("likely(0, 0, 20, 0)", rare.likely(0, 0, 20, 0), 0);
        due("likely(0, 0, 20, 4)", rare.likely(0, 0, 20, 4), 1000000);
        BathWater rarest = with("bath 1 1 0 0;" + times(4, "bather 5 5 5 1;") + "bather 9 9 9 10;bather 50 50 50 0;");
        due("odds(31), 1 of a BILLION", rarest.odds(31), 1);
        due("likely(0, 0, 29, 0)", rarest.likely(0, 0, 29, 0), 1000000);
        due("likely(0, 0, 29, 4)", rarest.likely(0, 0, 29, 4), 1000000);
        due("likely(0, 0, 29, 5)", rarest.likely(0, 0, 29, 5), 0);
        due("odds(15), 9 of a BILLION", rarest.odds(15), 9);
        due("likely(0, 0, 20, 3)", rarest.likely(0, 0, 20, 3), 1000000);
        due("likely(0, 0, 20, 4)", rarest.likely(0, 0, 20, 4), 0);
    }

    private static void oddsFromZeroToBillion() {
        about("15: ODDS of a SET: of a BILLION. UNKNOWN");
        due("odds(0) without BATHERS", new BathWater().odds(0), 1000000000);
        BathWater x = with(times(5, "bather 1 1 1 100;") + "bather 1 1 1 0;");
        due("odds(31)", x.odds(31), 1000000000);
        for (int set : new int[] {0, 1, 30, 32, 63}) {
            due("odds(" + set + ")", x.odds(set), 0);
        }
        due("odds(64)", x.odds(64), UNKNOWN);
        for (int far : FAR) {
            due("odds(" + far + ")", x.odds(far), UNKNOWN);
        }
        BathWater one = with("bather 1 1 1 1;");
        due("odds(1)", one.odds(1), 10000000);
        due("odds(0)", one.odds(0), 990000000);
        due("odds(2)", one.odds(2), UNKNOWN);
    }

    private static void oddsAreCutEachTime() {
        about("2: BATHER by BATHER times P (or 100 less P) / 100 (cut)");
        int[] ones = {1000000000, 10000000, 100000, 1000, 10, 0, 0};
        for (int n = 1; n <= 6; n++) {
            due("odds of " + n + " of one of a hundred", with(times(n, "bather 1 1 1 1;")).odds((1 << n) - 1), ones[n]);
        }
        String ten = times(4, "bather 1 1 1 1;");
        due("odds(63), 10 times 99 / 100, twice", with(ten + times(2, "bather 1 1 1 99;")).odds(63), 8);
        due("odds(63), 10 times 99 / 100, times 50 / 100", with(ten + "bather 1 1 1 99;bather 1 1 1 50;").odds(63), 4);
        due("odds(63), 950990049 times 99 / 100", with(times(6, "bather 1 1 1 99;")).odds(63), 941480148);
    }

    private static void forgetHowMany() {
        about("25: No MORNINGS: how many there were");
        for (int n = 0; n <= 12; n++) {
            BathWater x = with(WIDE);
            for (int i = 0; i < n; i++) {
                x.morning(0, 0, 1, 500 + i % 2);
            }
            due("forget()", x.forget(), n);
            due("told(3)", x.told(3), 0);
            due("told(6)", x.told(6), 0);
            ends(x, 0, 1, 999);
            due("forget() of none", x.forget(), 0);
        }
        due("forget() of a new one", new BathWater().forget(), 0);
    }
}
