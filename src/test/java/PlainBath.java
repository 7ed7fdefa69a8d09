import java.util.ArrayList;
import java.util.HashMap;
import java.util.List;
import java.util.Map;

/**
 * A second BathWater, written from the document alone in its plainest form (no tables, no short cuts, nothing kept
 * that can be found again), so that the real one can be held against it on many runs of calls.
 */
final class PlainBath {
    static final int NONE = -1, UNKNOWN = -1000000001, OUTSIDE = -1000000002, NOT = -1000000003, FULL = -1000000004;

    private static final class House {
        final List<int[]> baths = new ArrayList<>();
        final List<int[]> bathers = new ArrayList<>();
        int odd = 5;
        boolean oddTold;
    }

    private record Row(int bath, int hour, int set, int height) { }

    private record Token(char kind, int at, String text) { }

    private static final class Fault extends Exception {
        private static final long serialVersionUID = 1L;

        final int number;
        final int at;

        Fault(int number, int at) {
            super("fault " + number + " at " + at);
            this.number = number;
            this.at = at;
        }
    }

    private StringBuilder text = new StringBuilder();
    private House home = new House();
    private int fault = NONE;
    private List<Row> mornings = new ArrayList<>();
    private final List<Row> book = new ArrayList<>();
    private long seed;
    private final List<List<Row>> keptMornings = new ArrayList<>(List.of(List.of(), List.of()));
    private final long[] keptSeeds = {-1, -1};
    private final Map<Integer, Integer> memo = new HashMap<>();

    // ---- the house

    int feed(int n, long bytes) {
        if (n < 1 || n > 8) {
            return OUTSIDE;
        }
        if (text.length() + n > 400) {
            return FULL;
        }
        StringBuilder more = new StringBuilder();
        long rest = bytes;
        for (int i = 0; i < n; i++) {
            more.insert(0, (char) (rest & 0xff));
            rest >>= 8;
        }
        text.append(more);
        return text.length();
    }

    int house() {
        String all = text.toString();
        text = new StringBuilder();
        try {
            home = parse(all);
        } catch (Fault f) {
            fault = f.at;
            return -10 - f.number;
        }
        fault = NONE;
        mornings.clear();
        book.clear();
        keptSeeds[0] = -1;
        keptSeeds[1] = -1;
        memo.clear();
        return home.bathers.size();
    }

    private static List<Token> tokens(String all) {
        List<Token> found = new ArrayList<>();
        int i = 0;
        while (i < all.length()) {
            String rest = all.substring(i);
            String word = leading(rest, 'a', 'z');
            String figures = leading(rest, '0', '9');
            if (!word.isEmpty()) {
                found.add(new Token('w', i, word));
                i += word.length();
            } else if (!figures.isEmpty()) {
                found.add(new Token('n', i, figures));
                i += figures.length();
            } else {
                if (rest.charAt(0) != ' ') {
                    found.add(new Token('s', i, rest.substring(0, 1)));
                }
                i++;
            }
        }
        found.add(new Token('e', all.length(), ""));
        return found;
    }

    private static String leading(String rest, char from, char to) {
        int n = 0;
        while (n < rest.length() && rest.charAt(n) >= from && rest.charAt(n) <= to) {
            n++;
        }
        return rest.substring(0, n);
    }

    private static House parse(String all) throws Fault {
        House house = new House();
        List<Token> row = tokens(all);
        int i = 0;
        while (row.get(i).kind != 'e') {
            Token head = row.get(i);
            int[][] bounds = switch (head.kind + head.text) {
                case "wbath" -> new int[][] {{1, 99}, {1, 99}, {0, 9999}, {0, 99}};
                case "wbather" -> new int[][] {{1, 999}, {1, 999}, {1, 999}, {0, 100}};
                case "wodd" -> new int[][] {{1, 999}};
                default -> throw new Fault(1, head.at);
            };
            if (head.text.equals("bath") && house.baths.size() == 2
                    || head.text.equals("bather") && house.bathers.size() == 6
                    || head.text.equals("odd") && house.oddTold) {
                throw new Fault(3, head.at);
            }
            int[] values = new int[bounds.length];
            for (int j = 0; j < bounds.length; j++) {
                Token t = row.get(i + 1 + j);
                if (t.kind != 'n') {
                    throw new Fault(1, t.at);
                }
                if (t.text.length() > 4 || Integer.parseInt(t.text) < bounds[j][0]
                        || Integer.parseInt(t.text) > bounds[j][1]) {
                    throw new Fault(2, t.at);
                }
                values[j] = Integer.parseInt(t.text);
                boolean bather = head.text.equals("bather");
                if (bather && j == 1 && values[1] < values[0]
                        || bather && j == 2 && (values[2] < values[0] || values[2] > values[1])) {
                    throw new Fault(4, t.at);
                }
            }
            Token end = row.get(i + 1 + bounds.length);
            if (end.kind != 's' || !end.text.equals(";")) {
                throw new Fault(1, end.at);
            }
            if (head.text.equals("bath")) {
                house.baths.add(values);
            } else if (head.text.equals("bather")) {
                house.bathers.add(values);
            } else {
                house.odd = values[0];
                house.oddTold = true;
            }
            i += 2 + bounds.length;
        }
        return house;
    }

    int fault() {
        return fault;
    }

    int told(int what) {
        int[] all = {home.baths.size(), home.bathers.size(), home.odd, mornings.size(), book.size(), text.length(),
            clash() ? 1 : 0};
        return what < 0 || what >= all.length ? OUTSIDE : all[what];
    }

    int bath(int b, int what) {
        if (noBath(b)) {
            return UNKNOWN;
        }
        return what < 0 || what > 3 ? OUTSIDE : home.baths.get(b)[what];
    }

    int bather(int k, int what) {
        if (noBather(k)) {
            return UNKNOWN;
        }
        if (what < 0 || what > 5) {
            return OUTSIDE;
        }
        return what < 4 ? home.bathers.get(k)[what] : ends()[k][what - 4];
    }

    int height(int b, int hour, int set) {
        if (noBath(b) || noSet(set)) {
            return UNKNOWN;
        }
        return noHour(hour) ? OUTSIDE : heightOf(b, hour, sizeIn(set, 0));
    }

    int span(int b, int hour, int height, int what) {
        if (noBath(b)) {
            return UNKNOWN;
        }
        if (noHour(hour) || noHeight(height) || what < 0 || what > 1) {
            return OUTSIDE;
        }
        long[] span = spanOf(b, hour, height);
        return span == null ? NONE : (int) span[what];
    }

    // ---- mornings

    int morning(int b, int hour, int set, int height) {
        if (noBath(b) || noSet(set)) {
            return UNKNOWN;
        }
        if (noHour(hour) || noHeight(height)) {
            return OUTSIDE;
        }
        if (mornings.size() == 12) {
            return FULL;
        }
        mornings.add(new Row(b, hour, set, height));
        return mornings.size();
    }

    int strike(int i) {
        if (i < 0 || i >= mornings.size()) {
            return UNKNOWN;
        }
        mornings.remove(i);
        return mornings.size();
    }

    int wrong() {
        for (int many = 0; many <= 12; many++) {
            for (int set = 0; set < 1 << mornings.size(); set++) {
                if (Integer.bitCount(set) == many && narrowed(without(set)) != null) {
                    return set;
                }
            }
        }
        throw new IllegalStateException();
    }

    private List<Row> without(int set) {
        List<Row> left = new ArrayList<>();
        for (int i = 0; i < mornings.size(); i++) {
            if ((set & 1 << i) == 0) {
                left.add(mornings.get(i));
            }
        }
        return left;
    }

    int canBe(int b, int hour, int height, int i) {
        if (noBath(b)) {
            return UNKNOWN;
        }
        if (noHour(hour) || noHeight(height)) {
            return OUTSIDE;
        }
        List<Integer> can = setsThatCan(b, hour, height);
        if (i == NONE) {
            return can.size();
        }
        return i < 0 || i >= can.size() ? NONE : can.get(i);
    }

    int likely(int b, int hour, int height, int k) {
        if (noBath(b) || noBather(k)) {
            return UNKNOWN;
        }
        if (noHour(hour) || noHeight(height)) {
            return OUTSIDE;
        }
        long all = 0;
        long with = 0;
        for (int set : setsThatCan(b, hour, height)) {
            all += odds(set);
            with += (set & 1 << k) != 0 ? odds(set) : 0;
        }
        return all == 0 ? 0 : (int) (with * 1000000 / all);
    }

    private List<Integer> setsThatCan(int b, int hour, int height) {
        int[][] ends = ends();
        List<Integer> can = new ArrayList<>();
        for (int set = 0; set < 1 << home.bathers.size(); set++) {
            int low = 0;
            int high = 0;
            for (int k = 0; k < home.bathers.size(); k++) {
                if ((set & 1 << k) != 0) {
                    low += ends[k][0];
                    high += ends[k][1];
                }
            }
            boolean some = false;
            for (int s = low; s <= high && !some; s++) {
                some = heightOf(b, hour, s) == height;
            }
            if (some) {
                can.add(set);
            }
        }
        return can;
    }

    int odds(int set) {
        if (noSet(set)) {
            return UNKNOWN;
        }
        long odds = 1000000000;
        for (int k = 0; k < home.bathers.size(); k++) {
            int p = home.bathers.get(k)[3];
            odds = odds * ((set & 1 << k) != 0 ? p : 100 - p) / 100;
        }
        return (int) odds;
    }

    // ---- cases

    int tells(int b, int set, int which) {
        if (noBath(b) || noSet(set) || set == 0 || noCase(which)) {
            return UNKNOWN;
        }
        return heightOf(b, 0, sizeIn(set, which));
    }

    int alike(int which) {
        if (noCase(which)) {
            return UNKNOWN;
        }
        int set = 0;
        for (int c = 0; c < 13; c++) {
            if (!noCase(c) && !parted(which, c, 0)) {
                set |= 1 << c;
            }
        }
        return set;
    }

    /** Whether some try without the bathers of a set parts two cases. */
    private boolean parted(int c, int d, int without) {
        for (int b = 0; b < home.baths.size(); b++) {
            for (int set = 1; set < 1 << home.bathers.size(); set++) {
                if ((set & without) == 0 && tells(b, set, c) != tells(b, set, d)) {
                    return true;
                }
            }
        }
        return false;
    }

    int needed(int cases, int what) {
        for (int c = 0; c < 32; c++) {
            if ((cases & 1 << c) != 0 && noCase(c)) {
                return UNKNOWN;
            }
        }
        if (what < 0 || what > 2) {
            return OUTSIDE;
        }
        int fewest = fewest(cases);
        if (what == 0) {
            return fewest;
        }
        for (int b = 0; fewest > 0 && b < home.baths.size(); b++) {
            for (int set = 1; set < 1 << home.bathers.size(); set++) {
                if (worst(cases, b, set, 99) == fewest - 1) {
                    return what == 1 ? b : set;
                }
            }
        }
        return NONE;
    }

    private int fewest(int cases) {
        Integer known = memo.get(cases);
        if (known != null) {
            return known;
        }
        int best = 99;
        boolean any = false;
        for (int b = 0; b < home.baths.size(); b++) {
            for (int set = 1; set < 1 << home.bathers.size(); set++) {
                int worst = worst(cases, b, set, best);
                if (worst >= 0) {
                    any = true;
                    best = Math.min(best, worst + 1);
                }
            }
        }
        int answer = any ? best : 0;
        memo.put(cases, answer);
        return answer;
    }

    /** The most that is still needed behind a try; -1 if it parts nothing. */
    private int worst(int cases, int b, int set, int enough) {
        Map<Integer, Integer> parts = new HashMap<>();
        for (int c = 0; c < 13; c++) {
            if ((cases & 1 << c) != 0) {
                parts.merge(tells(b, set, c), 1 << c, Integer::sum);
            }
        }
        if (parts.size() < 2) {
            return -1;
        }
        int worst = 0;
        for (int part : parts.values()) {
            worst = Math.max(worst, fewest(part));
            if (worst >= enough) {
                return worst;
            }
        }
        return worst;
    }

    int away() {
        for (int k = 0; k < home.bathers.size(); k++) {
            for (int c = 1; c <= home.bathers.size(); c++) {
                for (int d = 1; d <= home.bathers.size(); d++) {
                    if (parted(c, d, 0) && !parted(c, d, 1 << k)) {
                        return k;
                    }
                }
            }
        }
        return NONE;
    }

    int called(int g, int what) {
        if (g < 0 || g > 999 || what < 0 || what > 1) {
            return OUTSIDE;
        }
        if (home.baths.isEmpty()) {
            return NOT;
        }
        int finest = 0;
        for (int b = 0; b < home.baths.size(); b++) {
            finest = measure(b) < measure(finest) ? b : finest;
        }
        int[][] ends = ends();
        int many = 0;
        int widest = 0;
        for (int k = 0; k < home.bathers.size(); k++) {
            int low = ends[k][0];
            int high = ends[k][1];
            if (high - low > g) {
                many++;
                long[] span = spanOf(finest, 0, heightOf(finest, 0, home.bathers.get(k)[2]));
                low = (int) Math.max(low, span[0]);
                high = (int) Math.min(high, span[1]);
            }
            widest = Math.max(widest, high - low);
        }
        return what == 0 ? many : widest;
    }

    // ---- books, draws, images

    int write(int b, int hour, int set, int height) {
        if (noBath(b) || noSet(set)) {
            return UNKNOWN;
        }
        if (noHour(hour) || noHeight(height)) {
            return OUTSIDE;
        }
        if (book.size() == 30) {
            return FULL;
        }
        book.add(new Row(b, hour, set, height));
        return book.size();
    }

    int tear() {
        int had = book.size();
        book.clear();
        return had;
    }

    int judge() {
        for (int i = 0; i < book.size(); i++) {
            Row row = book.get(i);
            if (row.height != height(row.bath, row.hour, row.set)) {
                return i;
            }
        }
        return NONE;
    }

    int drift(int b, int n) {
        if (noBath(b)) {
            return UNKNOWN;
        }
        if (n < 1 || n > 30) {
            return OUTSIDE;
        }
        for (int i = 0; i < n; i++) {
            int set = 0;
            for (int k = 0; k < home.bathers.size(); k++) {
                set += draw(100) < home.bathers.get(k)[3] ? 1 << k : 0;
            }
            int hour = draw(4);
            morning(b, hour, set, height(b, hour, set));
        }
        return mornings.size();
    }

    private int draw(int n) {
        seed = Math.floorMod(seed * 1103515245L + 12345L, 1L << 31);
        return (int) (seed / 65536 % n);
    }

    int forget() {
        int had = mornings.size();
        mornings.clear();
        return had;
    }

    int seed(int v) {
        if (v < 0) {
            return OUTSIDE;
        }
        int was = (int) seed;
        seed = v;
        return was;
    }

    int keep(int i) {
        if (i != 0 && i != 1) {
            return UNKNOWN;
        }
        keptMornings.set(i, List.copyOf(mornings));
        keptSeeds[i] = seed;
        return 1;
    }

    int goBack(int i) {
        if (i != 0 && i != 1) {
            return UNKNOWN;
        }
        if (keptSeeds[i] < 0) {
            return NOT;
        }
        mornings = new ArrayList<>(keptMornings.get(i));
        seed = keptSeeds[i];
        return 1;
    }

    // ---- terms

    private boolean noBath(int b) {
        return b < 0 || b >= home.baths.size();
    }

    private boolean noBather(int k) {
        return k < 0 || k >= home.bathers.size();
    }

    private boolean noSet(int set) {
        for (int k = 0; k < 32; k++) {
            if ((set & 1 << k) != 0 && noBather(k)) {
                return true;
            }
        }
        return false;
    }

    private boolean noCase(int which) {
        int many = home.bathers.size();
        return !(which == 0 || which >= 1 && which < 1 + many || which >= 7 && which < 7 + many);
    }

    private static boolean noHour(int hour) {
        return hour < 0 || hour > 99;
    }

    private static boolean noHeight(int height) {
        return height < 0 || height > 99999;
    }

    private int measure(int b) {
        return home.baths.get(b)[0] * home.baths.get(b)[1];
    }

    private int water(int b, int hour) {
        return Math.max(0, home.baths.get(b)[2] - home.baths.get(b)[3] * hour);
    }

    private int heightOf(int b, int hour, int size) {
        return (water(b, hour) + size) / measure(b);
    }

    /** The sizes that have a height, told from the height's own water: from where it begins to where the next does. */
    private long[] spanOf(int b, int hour, int height) {
        long from = (long) height * measure(b) - water(b, hour);
        long behind = (height + 1L) * measure(b) - water(b, hour);
        return behind <= 0 ? null : new long[] {from < 0 ? 0 : from, behind - 1};
    }

    private int sizeIn(int set, int which) {
        int sum = 0;
        for (int k = 0; k < home.bathers.size(); k++) {
            int size = home.bathers.get(k)[2];
            if (which == 1 + k) {
                size += home.odd;
            } else if (which == 7 + k) {
                size = 0;
            }
            sum += (set & 1 << k) != 0 ? size : 0;
        }
        return sum;
    }

    private boolean clash() {
        return narrowed(mornings) == null;
    }

    private int[][] ends() {
        int[][] ends = narrowed(mornings);
        return ends == null ? narrowed(List.of()) : ends;
    }

    /** The ends by some mornings, word for word as the document narrows them; null if there is a clash. */
    private int[][] narrowed(List<Row> rows) {
        int[][] ends = new int[home.bathers.size()][];
        for (int k = 0; k < ends.length; k++) {
            ends[k] = new int[] {home.bathers.get(k)[0], home.bathers.get(k)[1]};
        }
        boolean changed = true;
        while (changed) {
            changed = false;
            for (Row row : rows) {
                long[] span = spanOf(row.bath, row.hour, row.height);
                if (span == null || row.set == 0 && span[0] != 0) {
                    return null;
                }
                for (int k = 0; k < ends.length; k++) {
                    if ((row.set & 1 << k) == 0) {
                        continue;
                    }
                    int low = (int) span[0] - others(ends, row.set, k, 1);
                    if (low > ends[k][0]) {
                        ends[k][0] = low;
                        changed = true;
                    }
                    int high = (int) span[1] - others(ends, row.set, k, 0);
                    if (high < ends[k][1]) {
                        ends[k][1] = high;
                        changed = true;
                    }
                    if (ends[k][0] > ends[k][1]) {
                        return null;
                    }
                }
            }
        }
        return ends;
    }

    private static int others(int[][] ends, int set, int but, int which) {
        int sum = 0;
        for (int k = 0; k < ends.length; k++) {
            sum += k != but && (set & 1 << k) != 0 ? ends[k][which] : 0;
        }
        return sum;
    }
}
