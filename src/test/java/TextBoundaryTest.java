/** THE TEXT and THE HOUSE, sentence by sentence: each bound, one below it, one above it, the empty and the full. */
public final class TextBoundaryTest extends Asker {
    private static final String BATH = "bath 1 1 0 0;", BATHER = "bather 1 1 1 0;";
    /** Each NUMBER as great as it can be. */
    private static final String FULLEST = times(2, "bath 99 99 9999 99;") + times(6, "bather 999 999 999 100;") + "odd 999;";

    public static void main(String[] args) {
        constants();
        newObject();
        feedTakesOneToEight();
        feedTakesTheLowestBytes();
        feedPutsTheHighestFirst();
        feedHasRoomFor400();
        feedRefusesWhole();
        textOf400IsRead();
        textOf400HasAFault();
        twoBathsAtMost();
        boundsOfABath();
        sixBathersAtMost();
        boundsOfABather();
        mostNotBelowLeast();
        truthWithinEnds();
        boundsOfOdd();
        oddOnce();
        numbersHaveOneToFourFigures();
        numbersFarOut();
        wordsAreOfLetters();
        blanksAre32Alone();
        blanksMayStandAnywhere();
        blanksNotWithin();
        sideBySideNeedsOne();
        cannotStand();
        faultAtTheEnd();
        numberAtItsFirst();
        oneTooManyAtItsFirstLetter();
        firstByteThatHasOne();
        leastOfOneByte();
        emptyText();
        houseEmptiesTheText();
        houseTellsBathersOrFault();
        houseClears();
        placeOfTheLatest();
        toldHasSeven();
        toldOfTheEmptyAndTheFull();
        bathHasFour();
        batherHasSix();
        finish();
    }

    /** The text stands: so many bathers. */
    private static BathWater good(String text, int bathers) {
        BathWater x = new BathWater();
        put(x, text);
        due("house() of '" + text + "'", x.house(), bathers);
        due("fault() of '" + text + "'", x.fault(), NONE);
        return x;
    }

    private static void bad(String text, int fault, int place) {
        BathWater x = new BathWater();
        put(x, text);
        due("house() of '" + text + "'", x.house(), -10 - fault);
        due("fault() of '" + text + "'", x.fault(), place);
    }

    /** A NUMBER between two pieces of a text: its bounds stand, one below and one above do not. */
    private static void bounds(String ahead, String behind, int least, int most) {
        good(ahead + least + behind, ahead.startsWith("bather") ? 1 : 0);
        good(ahead + (least + 1) + behind, ahead.startsWith("bather") ? 1 : 0);
        good(ahead + (most - 1) + behind, ahead.startsWith("bather") ? 1 : 0);
        good(ahead + most + behind, ahead.startsWith("bather") ? 1 : 0);
        // Below 0 there is a sign that no NUMBER has.
        bad(ahead + (least - 1) + behind, least == 0 ? 1 : 2, ahead.length());
        bad(ahead + (most + 1) + behind, 2, ahead.length());
        bad(ahead + 9999999 + behind, 2, ahead.length());
    }

    private static void constants() {
        about("NONE is -1; -1000000001 and on");
        due("NONE", BathWater.NONE, -1);
        due("UNKNOWN", BathWater.UNKNOWN, -1000000001);
        due("OUTSIDE", BathWater.OUTSIDE, -1000000002);
        due("NOT", BathWater.NOT, -1000000003);
        due("FULL", BathWater.FULL, -1000000004);
    }

    private static void newObject() {
        about("1: No BATHS, no BATHERS");
        BathWater x = new BathWater();
        due("told(0)", x.told(0), 0);
        due("told(1)", x.told(1), 0);
        due("bath(0, 0)", x.bath(0, 0), UNKNOWN);
        due("bather(0, 0)", x.bather(0, 0), UNKNOWN);
        due("odds(0), of the one SET", x.odds(0), 1000000000);
        due("odds(1)", x.odds(1), UNKNOWN);
        due("house() of nothing", x.house(), 0);
    }

    // ---- feed

    private static void feedTakesOneToEight() {
        about("2: n bytes (1 .. 8)");
        BathWater x = new BathWater();
        for (int n : new int[] {0, 9, -1, 16, LEAST, MOST, LEAST + 1, LEAST + 8}) {
            due("feed(" + n + ")", x.feed(n, 0x20), OUTSIDE);
        }
        due("told(5)", x.told(5), 0);
        int length = 0;
        for (int n = 1; n <= 8; n++) {
            length += n;
            due("feed(" + n + ")", x.feed(n, bytesOf("        ")), length);
            due("told(5)", x.told(5), length);
        }
        due("house() of blanks", x.house(), 0);
    }

    private static void feedTakesTheLowestBytes() {
        about("2: The lowest n bytes of a long");
        String text = "odd 123;";
        for (int n = 1; n <= 8; n++) {
            BathWater x = new BathWater();
            put(x, text.substring(0, 8 - n));
            long above = n < 8 ? -1L << 8 * n : 0;
            due("feed(" + n + ")", x.feed(n, above | bytesOf(text.substring(8 - n))), 8);
            due("house()", x.house(), 0);
            due("told(2)", x.told(2), 123);
        }
        farBytes(1, Long.MIN_VALUE, 0);
        farBytes(1, Long.MAX_VALUE, 255);
        farBytes(8, Long.MIN_VALUE, 128);
        farBytes(8, Long.MAX_VALUE, 127);
        farBytes(8, -1L, 255);
        farBytes(7, Long.MIN_VALUE + ';', 0);
    }

    /** Behind a text that lacks its end: none of these bytes is it, nor a blank, nor a figure. */
    private static void farBytes(int n, long bytes, int first) {
        BathWater x = new BathWater();
        put(x, "odd 9");
        due("feed(" + n + ", " + bytes + ")", x.feed(n, bytes), 5 + n);
        due("house() with a byte " + first, x.house(), -11);
        due("fault()", x.fault(), 5);
    }

    private static void feedPutsTheHighestFirst() {
        about("2: the highest of these first");
        BathWater x = new BathWater();
        x.feed(8, 0x6f64642031323320L);
        x.feed(1, 0x3b);
        due("house() of 'odd 123 ;'", x.house(), 0);
        due("told(2)", x.told(2), 123);
        x.feed(4, 0x6f646420L);
        x.feed(4, 0x3132333bL);
        due("house() of 'odd 123;'", x.house(), 0);
        due("told(2)", x.told(2), 123);
        x.feed(4, 0x2064646fL);
        due("house() of ' ddo'", x.house(), -11);
        due("fault()", x.fault(), 1);
    }

    private static void feedHasRoomFor400() {
        about("2: FULL (400)");
        for (int n = 1; n <= 8; n++) {
            BathWater x = new BathWater();
            put(x, times(399 - n, " "));
            due("feed(" + n + ") up to 399", x.feed(n, bytesOf("        ")), 399);
            due("feed(2) up to 401", x.feed(2, bytesOf("  ")), FULL);
            due("feed(8) up to 407", x.feed(8, bytesOf("        ")), FULL);
            due("feed(1) up to 400", x.feed(1, ' '), 400);
            due("feed(1) up to 401", x.feed(1, ' '), FULL);
            due("feed(" + n + ") of a full one", x.feed(n, 0), FULL);
            due("feed(0) of a full one", x.feed(0, 0), OUTSIDE);
            due("feed(9) of a full one", x.feed(9, 0), OUTSIDE);
            due("told(5)", x.told(5), 400);
            BathWater y = new BathWater();
            put(y, times(400 - n, " "));
            due("feed(" + n + ") up to 400", y.feed(n, bytesOf("        ")), 400);
            BathWater z = new BathWater();
            put(z, times(401 - n, " "));
            due("feed(" + n + ") up to 401", z.feed(n, bytesOf("        ")), FULL);
            due("told(5)", z.told(5), 401 - n);
        }
    }

    private static void feedRefusesWhole() {
        about("What is refused changes nothing: no byte of a piece too long is taken");
        BathWater x = new BathWater();
        put(x, times(387, " ") + "odd 9");
        due("feed(8)", x.feed(8, bytesOf("       ;")), 400);
        due("house()", x.house(), 0);
        put(x, times(388, " ") + "odd 9");
        due("feed(8)", x.feed(8, bytesOf("!!!!!!!!")), FULL);
        due("feed(7)", x.feed(7, bytesOf("      ;")), 400);
        due("house()", x.house(), 0);
        due("feed(1) behind house()", x.feed(1, ' '), 1);
    }

    private static void textOf400IsRead() {
        about("1: 400 bytes at most");
        good(times(387, " ") + BATH, 0);
        due("told(0), the clause at the end", good(times(387, " ") + BATH, 0).told(0), 1);
        due("told(0), the clause ahead", good(BATH + times(387, " "), 0).told(0), 1);
        due("told(0), blanks within", good("bath" + times(388, " ") + "1 1 0 0;", 0).told(0), 1);
        BathWater x = good(FULLEST + times(400 - FULLEST.length(), " "), 6);
        due("told(0) of the fullest", x.told(0), 2);
        due("told(2) of the fullest", x.told(2), 999);
    }

    private static void textOf400HasAFault() {
        about("1: at the first byte that has one, in a text of 400 bytes");
        bad(times(387, " ") + "bath 1 1 0 0 ", 1, 400);
        bad(times(386, " ") + "bath 1 1 0 0;!", 1, 399);
        bad(times(388, " ") + "bath 1 1 0 0", 1, 400);
        bad(times(395, " ") + "odd 9", 1, 400);
        bad(times(396, " ") + "odd ", 1, 400);
        bad(times(397, " ") + "odd", 1, 400);
        bad(times(399, " ") + "o", 1, 399);
        bad(times(399, " ") + ";", 1, 399);
        bad(times(400, "o"), 1, 0);
        bad(times(400, "1"), 1, 0);
        bad(times(400, ";"), 1, 0);
        bad("odd " + times(396, "0"), 2, 4);
        bad("odd " + times(396, "1"), 2, 4);
        bad("odd 1;" + times(394, "o"), 1, 6);
        bad(times(395, " ") + "odd 0", 2, 399);
        bad(times(391, " ") + "odd 10000", 2, 395);
    }

    // ---- clauses and their NUMBERS

    private static void twoBathsAtMost() {
        about("1: 2 BATHS at most; 3 a third BATH");
        due("told(0) of none", good(BATHER, 1).told(0), 0);
        due("told(0) of one", good(BATH, 0).told(0), 1);
        due("told(0) of two", good(times(2, BATH), 0).told(0), 2);
        due("told(0) of two apart", good(BATH + times(6, BATHER) + BATH, 6).told(0), 2);
        bad(times(3, BATH), 3, 26);
        bad(times(2, BATH) + BATHER + "  bath", 3, 43);
        bad(times(4, BATH), 3, 26);
        BathWater x = good(times(2, BATH), 0);
        put(x, times(2, BATH));
        due("house() of two more: a HOUSE anew", x.house(), 0);
        due("told(0)", x.told(0), 2);
    }

    private static void boundsOfABath() {
        about("1: AREA 1 .. 99; a FINGER 1 .. 99 high; WATER 0 .. 9999; LEAK 0 .. 99");
        bounds("bath ", " 1 0 0;", 1, 99);
        bounds("bath 1 ", " 0 0;", 1, 99);
        bounds("bath 1 1 ", " 0;", 0, 9999);
        bounds("bath 1 1 0 ", ";", 0, 99);
        BathWater x = good("bath 1 1 0 0;bath 99 99 9999 99;", 0);
        int[] least = {1, 1, 0, 0};
        int[] most = {99, 99, 9999, 99};
        for (int what = 0; what < 4; what++) {
            due("bath(0, " + what + ")", x.bath(0, what), least[what]);
            due("bath(1, " + what + ")", x.bath(1, what), most[what]);
        }
    }

    private static void sixBathersAtMost() {
        about("1: 6 BATHERS at most; 3 a seventh BATHER");
        for (int n = 0; n <= 6; n++) {
            due("told(1)", good(times(n, BATHER), n).told(1), n);
        }
        good(times(3, BATHER) + BATH + times(3, BATHER) + BATH, 6);
        bad(times(7, BATHER), 3, 90);
        bad(times(6, BATHER) + BATH + " bather", 3, 104);
        bad(times(6, BATHER) + "bathe", 1, 90);
        BathWater x = good(times(6, BATHER), 6);
        put(x, times(6, BATHER));
        due("house() of six more: a HOUSE anew", x.house(), 6);
    }

    private static void boundsOfABather() {
        about("1: SIZE U to V, 1 .. 999; P of a hundred mornings, 0 .. 100");
        bounds("bather ", " 999 999 0;", 1, 999);
        bounds("bather 1 ", " 1 0;", 1, 999);
        bounds("bather 1 999 ", " 0;", 1, 999);
        bounds("bather 1 999 1 ", ";", 0, 100);
        BathWater x = good("bather 1 1 1 0;bather 999 999 999 100;bather 1 999 500 50;", 3);
        int[][] all = {{1, 1, 1, 0, 1, 1}, {999, 999, 999, 100, 999, 999}, {1, 999, 500, 50, 1, 999}};
        for (int k = 0; k < 3; k++) {
            for (int what = 0; what < 6; what++) {
                due("bather(" + k + ", " + what + ")", x.bather(k, what), all[k][what]);
            }
        }
    }

    private static void mostNotBelowLeast() {
        about("1: V not below U; 4 a V below its U (at it)");
        good("bather 500 500 500 0;", 1);
        good("bather 500 501 500 0;", 1);
        bad("bather 500 499 499 0;", 4, 11);
        bad("bather 500 1 1 0;", 4, 11);
        bad("bather 999 998 998 0;", 4, 11);
        bad("bather 2 1 1 0;", 4, 9);
        bad("bather 500   0499 499 0;", 4, 13);
        bad("bather 500 499", 4, 11);
        good("bather 9 10 10 0;", 1);
        bad("bather 10 9 9 0;", 4, 10);
    }

    private static void truthWithinEnds() {
        about("1: S, U .. V; 4 an S not from U to V (at it)");
        good("bather 10 20 10 0;", 1);
        good("bather 10 20 11 0;", 1);
        good("bather 10 20 19 0;", 1);
        good("bather 10 20 20 0;", 1);
        bad("bather 10 20 9 0;", 4, 13);
        bad("bather 10 20 21 0;", 4, 13);
        bad("bather 10 20 1 0;", 4, 13);
        bad("bather 10 20 999 0;", 4, 13);
        bad("bather 10 10 11 0;", 4, 13);
        bad("bather 10 10 9 0;", 4, 13);
        about("1: 2 out of its bounds (those of an S are any SIZE's)");
        bad("bather 10 20 0 0;", 2, 13);
        bad("bather 10 20 1000 0;", 2, 13);
        bad("bather 1 999 0 0;", 2, 13);
        bad("bather 1 999 1000 0;", 2, 13);
    }

    private static void boundsOfOdd() {
        about("1: 'odd' D (1 .. 999; 5 untold)");
        bounds("odd ", ";", 1, 999);
        due("told(2) of 1", good("odd 1;", 0).told(2), 1);
        due("told(2) of 999", good("odd 999;", 0).told(2), 999);
        due("told(2), untold", good("", 0).told(2), 5);
        due("told(2), untold", good(BATH, 0).told(2), 5);
    }

    private static void oddOnce() {
        about("1: once; 3 'odd' again");
        bad("odd 5;odd 5;", 3, 6);
        bad("odd 1;" + BATH + BATHER + " odd", 3, 35);
        BathWater x = good("odd 7;", 0);
        put(x, "odd 8;");
        due("house() with the only 'odd' of its text", x.house(), 0);
        due("told(2)", x.told(2), 8);
        put(x, "odd 9;!");
        due("house() with a FAULT behind its 'odd'", x.house(), -11);
        due("told(2)", x.told(2), 8);
        put(x, BATH);
        due("house() without", x.house(), 0);
        due("told(2)", x.told(2), 5);
    }

    private static void numbersHaveOneToFourFigures() {
        about("1: NUMBERS have one to four figures; 2 a NUMBER of five figures or more");
        bad("odd ;", 1, 4);
        for (int zeros = 0; zeros <= 3; zeros++) {
            due("told(2)", good("odd " + times(zeros, "0") + "9;", 0).told(2), 9);
        }
        bad("odd 00009;", 2, 4);
        bad("odd 000009;", 2, 4);
        good("bath 1 1 0000 0;", 0);
        bad("bath 1 1 00000 0;", 2, 9);
        bad("bath 1 1 0 00000;", 2, 11);
        bad("bath 00001 1 0 0;", 2, 5);
        bad("bather 00001 1 1 0;", 2, 7);
        bad("bather 1 1 1 00000;", 2, 13);
        good("bather 0001 0001 0001 0000;", 1);
        bad("odd 0000;", 2, 4);
    }

    private static void numbersFarOut() {
        about("1: 2 a NUMBER out of its bounds, however far");
        String[] far = {"2147483647", "2147483648", "4294967297", "9223372036854775807", "18446744073709551617",
            "99999999999999999999", "65537", "10001", "42949672970001"};
        for (String number : far) {
            bad("odd " + number + ";", 2, 4);
            bad("bath 1 1 " + number + " 0;", 2, 9);
            bad("bather 1 1 1 " + number + ";", 2, 13);
        }
        bad("bather 1 1 -1 0;", 1, 11);
        bad("odd -2147483648;", 1, 4);
        bad("odd +1;", 1, 4);
    }

    // ---- words and blanks

    private static void wordsAreOfLetters() {
        about("1: words are letters a .. z side by side");
        bad("batha", 1, 0);
        bad("bathz", 1, 0);
        bad("bath`", 1, 4);
        bad("bath{", 1, 4);
        bad("bathA", 1, 4);
        bad("bathZ", 1, 4);
        bad("Bath 1 1 0 0;", 1, 0);
        bad("BATH 1 1 0 0;", 1, 0);
        bad("bathe 1 1 1 0;", 1, 0);
        bad("batherr 1 1 1 0;", 1, 0);
        bad("bathbath 1 1 0 0;", 1, 0);
        for (String clause : new String[] {BATH, BATHER, "odd 1;"}) {
            for (int at = 0; clause.charAt(at) != ' '; at++) {
                String ahead = clause.substring(0, at);
                String behind = clause.substring(at + 1);
                bad(ahead + (char) (clause.charAt(at) + 1) + behind, 1, 0);
                bad(ahead + (char) (clause.charAt(at) ^ 2) + behind, 1, 0);
                bad(ahead + behind, 1, 0);
            }
        }
        bad("od 1;", 1, 0);
        bad("odda 1;", 1, 0);
        bad("o", 1, 0);
        bad("\u00e2ath", 1, 0);
        bad("odd /;", 1, 4);
        bad("odd :;", 1, 4);
        bad("odd 1/;", 1, 5);
        bad("odd 1:;", 1, 5);
        bad("odd 1::", 1, 5);
        bad("odd 1<;", 1, 5);
        bad("odd 1a;", 1, 5);
    }

    private static void blanksAre32Alone() {
        about("1: blanks (32)");
        good(" odd 1;", 0);
        for (int sign = 0; sign < 256; sign++) {
            boolean blank = sign == 32;
            String one = String.valueOf((char) sign);
            if (blank) {
                good(one + "odd" + one + "1" + one + ";" + one, 0);
            } else if (!isOfTheText(sign)) {
                bad(one, 1, 0);
                bad("odd" + one + "1;", 1, 3);
                bad("odd 1" + one + ";", 1, 5);
                bad("odd 1;" + one, 1, 6);
            }
        }
    }

    private static boolean isOfTheText(int sign) {
        return sign >= 'a' && sign <= 'z' || sign >= '0' && sign <= '9' || sign == ';';
    }

    private static void blanksMayStandAnywhere() {
        about("1: blanks may stand anywhere but within words and NUMBERS");
        good("   bath   1   1   0   0   ;   bather   1   1   1   0   ;   odd   1   ;   ", 1);
        good("bath1 1 0 0;bather1 1 1 0;odd1;", 1);
        good("odd1;bath1 1 0 0;", 0);
        good("odd 1 ;", 0);
        good("odd 1; ", 0);
        good(" odd 1;", 0);
    }

    private static void blanksNotWithin() {
        about("1: blanks may not stand within words and NUMBERS");
        bad("o dd 1;", 1, 0);
        bad("od d 1;", 1, 0);
        bad("bath er 1 1 1 0;", 1, 5);
        bad("bat her 1 1 1 0;", 1, 0);
        bad("odd 1 0;", 1, 6);
        bad("bath 1 1 0 0 0;", 1, 13);
        bad("bather 1 1 1 1 0;", 1, 15);
    }

    private static void sideBySideNeedsOne() {
        about("1: two words, two NUMBERS side by side need one");
        due("told(0)", good("bath 1 1 0 0;", 0).told(0), 1);
        bad("bath 11 0 0;", 2, 8);
        bad("bath 1 1 00;", 1, 11);
        bad("bath 1100;", 2, 5);
        bad("bath 1 10 0;", 1, 11);
        bad("oddodd 1;", 1, 0);
        bad("odd odd 1;", 1, 4);
        bad("bather bath", 1, 7);
    }

    // ---- FAULTS

    private static void cannotStand() {
        about("1: 1 it cannot stand there (a word that cannot: at its first letter)");
        bad(";", 1, 0);
        bad("0", 1, 0);
        bad("9", 1, 0);
        bad("  x", 1, 2);
        bad("  bathx", 1, 2);
        bad("odd 1;;", 1, 6);
        bad("odd 1;5", 1, 6);
        bad("odd 1; five", 1, 7);
        bad("odd five;", 1, 4);
        bad("odd 1 five;", 1, 6);
        bad("odd;", 1, 3);
        bad("odd 1 odd 2;", 1, 6);
        bad("bath ;", 1, 5);
        bad("bath 1;", 1, 6);
        bad("bath 1 1;", 1, 8);
        bad("bath 1 1 0;", 1, 10);
        bad("bath 1 1 0 0 bath", 1, 13);
        bad("bather;", 1, 6);
        bad("bather 1;", 1, 8);
        bad("bather 1 1;", 1, 10);
        bad("bather 1 1 1;", 1, 12);
        bad("bather 1 1 1 0 0;", 1, 15);
        bad("bather x 1 1 0;", 1, 7);
        bad("bather 1 x 1 0;", 1, 9);
        bad("bather 1 1 x 0;", 1, 11);
        bad("bather 1 1 1 x;", 1, 13);
        bad("bather 1 1 1 0 x", 1, 15);
    }

    private static void faultAtTheEnd() {
        about("1: the end at the text's length");
        String[] clauses = {"bath 1 1 0 0;", "bather 1 1 1 0;", "odd 1;"};
        for (String clause : clauses) {
            for (int length = clause.indexOf(' '); length < clause.length(); length++) {
                bad(clause.substring(0, length), 1, length);
                bad(clause.substring(0, length) + "   ", 1, length + 3);
            }
        }
        bad("bathe", 1, 0);
    }

    private static void numberAtItsFirst() {
        about("1: 2 a NUMBER (at its first)");
        bad("odd   0000;", 2, 6);
        bad("odd   12345;", 2, 6);
        bad("odd0;", 2, 3);
        bad("odd 1000;", 2, 4);
        bad("bath 1 1 0   100;", 2, 13);
    }

    private static void oneTooManyAtItsFirstLetter() {
        about("1: 3 a third BATH, a seventh BATHER, 'odd' again (at its first letter)");
        bad(times(2, BATH) + "   bath", 3, 29);
        bad(times(2, BATH) + "bath;", 3, 26);
        bad(times(2, BATH) + "bath 0 0 0 0;", 3, 26);
        bad(times(6, BATHER) + "   bather", 3, 93);
        bad(times(6, BATHER) + "bather 2 1 1 0;", 3, 90);
        bad("odd 1;   odd", 3, 9);
        bad("odd 1;odd 0;", 3, 6);
    }

    private static void firstByteThatHasOne() {
        about("1: FAULTS, at the first byte that has one");
        bad("bath 0 x", 2, 5);
        bad("bath x 0", 1, 5);
        bad("bath 100 100 10000 100;", 2, 5);
        bad("bather 20 10 0 101;", 4, 10);
        bad("bather 20 30 10 101;", 4, 13);
        bad("bather 0 0 0 101;", 2, 7);
        bad("bather 1 1 1 101 x", 2, 13);
        bad("odd 0 odd", 2, 4);
        bad("odd 1;!odd 1;", 1, 6);
        bad(times(2, BATH) + "!" + BATH, 1, 26);
        bad(times(2, BATH) + BATH + "!", 3, 26);
    }

    private static void leastOfOneByte() {
        about("1: of these the least");
        bad("bather 5 0 5 0;", 2, 9);
        bad("bather 5 00001 5 0;", 2, 9);
        bad("bather 5 9 0 0;", 2, 11);
        bad("bather 5 9 1000 0;", 2, 11);
        bad("bather 5 9 00006 0;", 2, 11);
        bad("odd 1 12345;", 1, 6);
        bad("12345", 1, 0);
        bad("odd 1;00000", 1, 6);
        bad(times(2, BATH) + "bathx", 1, 26);
        bad(times(6, BATHER) + "bathers", 1, 90);
        bad("odd 1;odds 1;", 1, 6);
    }

    private static void emptyText() {
        about("1: An empty text (or one of blanks alone) has no FAULT: no BATHS, no BATHERS");
        for (int blanks : new int[] {0, 1, 2, 8, 399, 400}) {
            BathWater x = with(FULLEST);
            put(x, times(blanks, " "));
            due("house() of " + blanks + " blanks", x.house(), 0);
            due("fault()", x.fault(), NONE);
            due("told(0)", x.told(0), 0);
            due("told(1)", x.told(1), 0);
            due("told(2)", x.told(2), 5);
            due("bath(0, 0)", x.bath(0, 0), UNKNOWN);
            due("bather(0, 0)", x.bather(0, 0), UNKNOWN);
        }
    }

    // ---- house, fault, told, bath, bather

    private static void houseEmptiesTheText() {
        about("3: THE TEXT (it is empty then, with a FAULT, too)");
        BathWater x = new BathWater();
        put(x, times(400, " "));
        due("house()", x.house(), 0);
        due("told(5)", x.told(5), 0);
        due("feed(8) again", x.feed(8, bytesOf(times(8, " "))), 8);
        put(x, times(392, "!"));
        due("told(5)", x.told(5), 400);
        due("house() with a FAULT", x.house(), -11);
        due("fault()", x.fault(), 8);
        due("told(5)", x.told(5), 0);
        due("house() of nothing", x.house(), 0);
        due("fault()", x.fault(), NONE);
    }

    private static void houseTellsBathersOrFault() {
        about("3: how many BATHERS; -10 less the number of its FAULT");
        good("", 0);
        good(FULLEST, 6);
        bad("x", 1, 0);
        bad("odd 0;", 2, 4);
        bad("odd 1;odd 1;", 3, 6);
        bad("bather 2 1 1 0;", 4, 9);
    }

    private static void houseClears() {
        about("3: becomes THE HOUSE (no MORNINGS, BOOK)");
        for (int many : new int[] {0, 1, 12, 30}) {
            BathWater x = with(FULLEST);
            for (int i = 0; i < many; i++) {
                x.morning(0, 0, 1, 0);
                x.write(0, 0, 1, 0);
            }
            put(x, FULLEST);
            due("house() of the same text", x.house(), 6);
            due("told(3)", x.told(3), 0);
            due("told(4)", x.told(4), 0);
            due("told(6)", x.told(6), 0);
            due("judge()", x.judge(), NONE);
            due("forget()", x.forget(), 0);
            due("tear()", x.tear(), 0);
        }
    }

    private static void placeOfTheLatest() {
        about("4: The place (from 0 on) of the byte that has the FAULT of the latest house(); NONE");
        BathWater x = new BathWater();
        due("fault() without a house()", x.fault(), NONE);
        put(x, "!");
        due("fault() ahead of the house()", x.fault(), NONE);
        due("house()", x.house(), -11);
        due("fault(), the first byte", x.fault(), 0);
        put(x, times(400, " "));
        x.feed(1, '!');
        due("fault() behind feeds", x.fault(), 0);
        due("house()", x.house(), 0);
        due("fault() of the latest, that has none", x.fault(), NONE);
        put(x, times(399, " ") + "!");
        due("house()", x.house(), -11);
        due("fault(), the last byte", x.fault(), 399);
        put(x, times(392, " ") + "bath 1 1");
        due("house()", x.house(), -11);
        due("fault(), the end", x.fault(), 400);
    }

    private static void toldHasSeven() {
        about("5: How many: 0 .. 6. OUTSIDE");
        BathWater[] all = {new BathWater(), with(FULLEST)};
        for (BathWater x : all) {
            for (int what : new int[] {-1, 7, 8, LEAST, MOST}) {
                due("told(" + what + ")", x.told(what), OUTSIDE);
            }
        }
    }

    private static void toldOfTheEmptyAndTheFull() {
        about("5: How many: 0 BATHS, .. 6 whether there is a CLASH (1, 0)");
        BathWater x = new BathWater();
        int[] none = {0, 0, 5, 0, 0, 0, 0};
        for (int what = 0; what <= 6; what++) {
            due("told(" + what + ") of a new one", x.told(what), none[what]);
        }
        put(x, FULLEST);
        x.house();
        for (int i = 0; i < 30; i++) {
            x.morning(0, 0, 1, 0);
            x.write(0, 0, 1, 0);
        }
        put(x, times(400, "!"));
        int[] full = {2, 6, 999, 12, 30, 400, 1};
        for (int what = 0; what <= 6; what++) {
            due("told(" + what + ") of a full one", x.told(what), full[what]);
        }
    }

    private static void bathHasFour() {
        about("6: what = 0 AREA, 1 FINGER, 2 WATER, 3 LEAK. UNKNOWN, OUTSIDE");
        BathWater one = with("bath 2 3 4 5;");
        for (int b : new int[] {-1, 1, 2, LEAST, MOST}) {
            due("bath(" + b + ", 0)", one.bath(b, 0), UNKNOWN);
            due("bath(" + b + ", 4)", one.bath(b, 4), UNKNOWN);
        }
        BathWater two = with("bath 2 3 4 5;bath 6 7 8 9;");
        for (int what : new int[] {-1, 4, LEAST, MOST}) {
            due("bath(0, " + what + ")", two.bath(0, what), OUTSIDE);
            due("bath(1, " + what + ")", two.bath(1, what), OUTSIDE);
            due("bath(2, " + what + ")", two.bath(2, what), UNKNOWN);
        }
        due("bath(0, 0)", two.bath(0, 0), 2);
        due("bath(0, 3)", two.bath(0, 3), 5);
        due("bath(1, 0)", two.bath(1, 0), 6);
        due("bath(1, 3)", two.bath(1, 3), 9);
    }

    private static void batherHasSix() {
        about("7: what = 0 U, 1 V, 2 S, 3 P, 4 lower END, 5 upper END. UNKNOWN, OUTSIDE");
        BathWater one = with("bather 2 4 3 5;");
        for (int k : new int[] {-1, 1, 5, 6, LEAST, MOST}) {
            due("bather(" + k + ", 0)", one.bather(k, 0), UNKNOWN);
            due("bather(" + k + ", 4)", one.bather(k, 4), UNKNOWN);
            due("bather(" + k + ", 6)", one.bather(k, 6), UNKNOWN);
        }
        BathWater six = with(times(5, BATHER) + "bather 20 40 30 50;");
        int[] last = {20, 40, 30, 50, 20, 40};
        for (int what = 0; what <= 5; what++) {
            due("bather(5, " + what + ")", six.bather(5, what), last[what]);
        }
        for (int what : new int[] {-1, 6, LEAST, MOST}) {
            due("bather(0, " + what + ")", six.bather(0, what), OUTSIDE);
            due("bather(5, " + what + ")", six.bather(5, what), OUTSIDE);
            due("bather(6, " + what + ")", six.bather(6, what), UNKNOWN);
        }
    }
}
