import java.util.Random;

/** Runs of calls, the same ones each time, on BathWater and on PlainBath: all answers must be the same. */
public final class SameAsPlainTest {
    private static final int RUNS = 300, CALLS = 500;
    private static final int[] ODD_NUMBERS = {-1, -2, Integer.MIN_VALUE, Integer.MAX_VALUE, 2, 3, 6, 7, 12, 13, 30, 31,
        63, 64, 99, 100, 400, 999, 1000, 8191, 8192, 99999, 100000, 1 << 30};
    private static final String[] PIECES = {"bath", "bather", "odd", ";", " ", "0", "1", "99", "100", "101", "999", "1000",
        "9999", "10000", "00001", "0001", "a", "A", "\t", ",", "\u00ff", "\u0000", "bat", "batherr", "{", "/", ":", "`"};

    private final Random random;
    private final BathWater real = new BathWater();
    private final PlainBath plain = new PlainBath();
    private final int run;
    private final StringBuilder log = new StringBuilder();
    private int baths;
    private int bathers;
    private static int wrong;
    private static final int[] refused = new int[4];
    private static long asked;

    private SameAsPlainTest(int run) {
        this.run = run;
        this.random = new Random(run);
    }

    public static void main(String[] args) {
        int first = args.length > 0 ? Integer.parseInt(args[0]) : 0;
        int behind = args.length > 1 ? Integer.parseInt(args[1]) : RUNS;
        for (int run = first; run < behind && wrong < 5; run++) {
            new SameAsPlainTest(run).run();
        }
        for (int i = 0; i < 4; i++) {
            if (refused[i] == 0) {
                wrong++;
                System.out.println("no call was refused by " + (-1000000001 - i) + ": the runs are too tame");
            }
        }
        System.out.println(asked + " answers compared, " + wrong + " wrong");
        if (wrong != 0) {
            System.exit(1);
        }
    }

    private void run() {
        int before = wrong;
        for (int i = 0; i < CALLS && wrong == before; i++) {
            if (i == 0 || random.nextInt(120) == 0) {
                i += feedText();
            } else {
                call();
            }
        }
        if (wrong != before) {
            System.out.println("run " + run + ":\n" + log);
        }
    }

    private void same(String call, int is, int due) {
        asked++;
        log.append(call).append(" = ").append(is).append('\n');
        if (is <= -1000000001 && is >= -1000000004) {
            refused[-1000000001 - is]++;
        }
        if (is != due) {
            wrong++;
            System.out.println("run " + run + ": " + call + " answered " + is + ", due is " + due);
        }
    }

    // ---- texts

    private int feedText() {
        String text = random.nextInt(3) == 0 ? spoiled(houseText()) : houseText();
        int calls = 0;
        for (int at = 0; at < text.length();) {
            int n = Math.min(random.nextInt(20) == 0 ? 1 + random.nextInt(8) : 8, text.length() - at);
            long bytes = random.nextLong();
            for (int i = 0; i < n; i++) {
                bytes = bytes << 8 | text.charAt(at + i) & 255;
            }
            at += n;
            same("feed(" + n + ", " + bytes + "L)", real.feed(n, bytes), plain.feed(n, bytes));
            calls++;
        }
        log.append("// ").append(text).append('\n');
        int answer = real.house();
        same("house()", answer, plain.house());
        same("fault()", real.fault(), plain.fault());
        baths = Math.max(0, plain.told(0));
        bathers = Math.max(0, plain.told(1));
        return calls + 1;
    }

    private String houseText() {
        StringBuilder text = new StringBuilder();
        int manyBaths = random.nextInt(8) == 0 ? 0 : 1 + random.nextInt(2);
        int manyBathers = random.nextInt(10) == 0 ? random.nextInt(7) : 2 + random.nextInt(5);
        int scale = 1 + random.nextInt(random.nextBoolean() ? 12 : 99);
        int sizes = random.nextBoolean() ? 40 : 999;
        int odd = random.nextInt(4);
        for (int i = 0; i < manyBaths; i++) {
            int finger = random.nextInt(4) == 0 ? 1 + random.nextInt(9) : 1;
            text.append(clause("bath", 1 + random.nextInt(scale), finger, random.nextInt(2) * random.nextInt(500),
                random.nextInt(12)));
            if (odd == i) {
                text.append(clause("odd", 1 + random.nextInt(random.nextBoolean() ? 9 : 200)));
            }
        }
        for (int k = 0; k < manyBathers; k++) {
            int[] ends = {1 + random.nextInt(sizes), 1 + random.nextInt(sizes)};
            int low = Math.min(ends[0], ends[1]);
            int high = Math.max(ends[0], ends[1]);
            int truth = low + random.nextInt(high - low + 1);
            text.append(clause("bather", low, high, truth, random.nextInt(101)));
        }
        return text.toString();
    }

    private String clause(String word, int... numbers) {
        StringBuilder text = new StringBuilder(word);
        for (int number : numbers) {
            text.append(" ".repeat(random.nextInt(9) == 0 ? 1 + random.nextInt(2) : 1)).append(number);
        }
        return text.append(random.nextInt(9) == 0 ? " ;" : ";").append(random.nextInt(9) == 0 ? " " : "").toString();
    }

    private String spoiled(String text) {
        StringBuilder spoiled = new StringBuilder(text);
        for (int i = random.nextInt(2); i >= 0; i--) {
            int at = random.nextInt(spoiled.length() + 1);
            int kind = random.nextInt(4);
            if (kind == 0) {
                spoiled.setLength(at);
            } else if (kind == 1 && at < spoiled.length()) {
                spoiled.deleteCharAt(at);
            } else if (kind == 2) {
                spoiled.append(text);
            } else {
                spoiled.insert(at, PIECES[random.nextInt(PIECES.length)]);
            }
        }
        spoiled.setLength(Math.min(spoiled.length(), 400));
        return spoiled.toString();
    }

    // ---- arguments, now and then such as are refused

    private boolean odd() {
        return random.nextInt(25) == 0;
    }

    private int oddNumber() {
        return random.nextBoolean() ? ODD_NUMBERS[random.nextInt(ODD_NUMBERS.length)] : random.nextInt();
    }

    private int below(int n) {
        return odd() || n <= 0 ? oddNumber() : random.nextInt(n);
    }

    private int anyHour() {
        return odd() ? oddNumber() : random.nextInt(3) == 0 ? random.nextInt(100) : random.nextInt(4);
    }

    private int anySet() {
        return odd() ? oddNumber() : random.nextInt(1 << bathers);
    }

    private int heightNear(int b, int hour, int set) {
        int truth = plain.height(b, hour, set);
        if (truth < 0 || odd()) {
            return oddNumber();
        }
        return random.nextInt(3) > 0 ? truth : Math.max(0, truth + random.nextInt(7) - 3);
    }

    // ---- calls

    private void call() {
        int b = below(baths);
        int hour = anyHour();
        int set = anySet();
        int height = heightNear(b, hour, set);
        int kind = random.nextInt(100);
        if (kind < 40) {
            callMornings(b, hour, set, height);
        } else if (kind < 60) {
            callHouse(b, hour, set, height);
        } else if (kind < 78) {
            callCases(b, set);
        } else {
            callBooks(b, hour, set, height);
        }
    }

    private void callHouse(int b, int hour, int set, int height) {
        int k = below(bathers);
        int what = below(7);
        same("told(" + what + ")", real.told(what), plain.told(what));
        same("bath(" + b + ", " + what + ")", real.bath(b, what), plain.bath(b, what));
        same("bather(" + k + ", " + what + ")", real.bather(k, what), plain.bather(k, what));
        same("height(" + b + ", " + hour + ", " + set + ")", real.height(b, hour, set), plain.height(b, hour, set));
        int end = below(2);
        same("span(" + b + ", " + hour + ", " + height + ", " + end + ")", real.span(b, hour, height, end),
            plain.span(b, hour, height, end));
        same("fault()", real.fault(), plain.fault());
        if (odd()) {
            int n = oddNumber();
            same("feed(" + n + ", 0L)", real.feed(n, 0L), plain.feed(n, 0L));
        }
    }

    private void callMornings(int b, int hour, int set, int height) {
        switch (random.nextInt(6)) {
            case 0, 1 -> same("morning(" + b + ", " + hour + ", " + set + ", " + height + ")",
                real.morning(b, hour, set, height), plain.morning(b, hour, set, height));
            case 2 -> {
                int i = below(12);
                same("strike(" + i + ")", real.strike(i), plain.strike(i));
            }
            case 3 -> same("wrong()", real.wrong(), plain.wrong());
            case 4 -> {
                int i = random.nextInt(3) == 0 ? -1 : below(8);
                same("canBe(" + b + ", " + hour + ", " + height + ", " + i + ")", real.canBe(b, hour, height, i),
                    plain.canBe(b, hour, height, i));
            }
            default -> {
                int k = below(bathers);
                same("likely(" + b + ", " + hour + ", " + height + ", " + k + ")", real.likely(b, hour, height, k),
                    plain.likely(b, hour, height, k));
                same("odds(" + set + ")", real.odds(set), plain.odds(set));
            }
        }
        same("told(6)", real.told(6), plain.told(6));
        int k = below(bathers);
        same("bather(" + k + ", 4)", real.bather(k, 4), plain.bather(k, 4));
        same("bather(" + k + ", 5)", real.bather(k, 5), plain.bather(k, 5));
    }

    private void callCases(int b, int set) {
        int which = below(13);
        same("tells(" + b + ", " + set + ", " + which + ")", real.tells(b, set, which), plain.tells(b, set, which));
        same("alike(" + which + ")", real.alike(which), plain.alike(which));
        int one = (1 << bathers) - 1;
        int there = 1 | one << 1 | one << 7;
        int some = random.nextInt(6) == 0 ? there : odd() ? oddNumber() : there & random.nextInt(8192);
        int what = below(3);
        same("needed(" + some + ", " + what + ")", real.needed(some, what), plain.needed(some, what));
        same("away()", real.away(), plain.away());
        int g = below(random.nextBoolean() ? 40 : 1000);
        int end = below(2);
        same("called(" + g + ", " + end + ")", real.called(g, end), plain.called(g, end));
    }

    private void callBooks(int b, int hour, int set, int height) {
        switch (random.nextInt(9)) {
            case 0, 1, 2 -> same("write(" + b + ", " + hour + ", " + set + ", " + height + ")",
                real.write(b, hour, set, height), plain.write(b, hour, set, height));
            case 3 -> {
                if (random.nextInt(6) == 0) {
                    same("tear()", real.tear(), plain.tear());
                }
            }
            case 4 -> {
                int n = random.nextBoolean() ? below(31) : 1 + random.nextInt(2);
                same("drift(" + b + ", " + n + ")", real.drift(b, n), plain.drift(b, n));
            }
            case 5 -> {
                if (random.nextInt(3) == 0) {
                    same("forget()", real.forget(), plain.forget());
                }
            }
            case 6 -> {
                int v = random.nextInt();
                same("seed(" + v + ")", real.seed(v), plain.seed(v));
            }
            case 7 -> {
                int i = below(2);
                same("keep(" + i + ")", real.keep(i), plain.keep(i));
            }
            default -> {
                int i = below(2);
                same("goBack(" + i + ")", real.goBack(i), plain.goBack(i));
            }
        }
        same("judge()", real.judge(), plain.judge());
        same("told(4)", real.told(4), plain.told(4));
    }
}
