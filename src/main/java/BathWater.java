import java.util.Arrays;

/** Who is in the bath, told by the height of its water; ../shared/DOC.md says what each call promises. */
public final class BathWater {
    public static final int NONE = -1, UNKNOWN = -1000000001, OUTSIDE = -1000000002, NOT = -1000000003, FULL = -1000000004;

    private static final int BATHS = 2, BATHERS = 6, MORNINGS = 12, ENTRIES = 30, BYTES = 400;
    private static final int HOURS = 100, HEIGHTS = 100000, MILLION = 1000000, BILLION = 1000000000;
    private static final int GREATEST_SEED = 2147483647;

    private final Reader reader = new Reader();
    private final Rows mornings = new Rows(MORNINGS);
    private final Rows entries = new Rows(ENTRIES);
    private final Image image0 = new Image();
    private final Image image1 = new Image();
    private final Ends ends = new Ends();
    private final Falsehood falsehood = new Falsehood();
    private final Cases tables = new Cases();
    private House home = new House();
    private House spare = new House();
    private int drawn;

    public BathWater() {
    }

    // ---- the house

    public int feed(int n, long bytes) {
        if (n < 1 || n > 8) {
            return OUTSIDE;
        }
        return reader.take(n, bytes) ? reader.length : FULL;
    }

    public int house() {
        reader.read(spare);
        if (reader.fault != 0) {
            return -10 - reader.fault;
        }
        House old = home;
        home = spare;
        spare = old;
        mornings.count = 0;
        entries.count = 0;
        image0.kept = false;
        image1.kept = false;
        tables.built = false;
        learn();
        return home.bathers;
    }

    public int fault() {
        return reader.place;
    }

    public int told(int what) {
        switch (what) {
            case 0: return home.baths;
            case 1: return home.bathers;
            case 2: return home.odd;
            case 3: return mornings.count;
            case 4: return entries.count;
            case 5: return reader.length;
            case 6: return ends.clash ? 1 : 0;
            default: return OUTSIDE;
        }
    }

    public int bath(int b, int what) {
        if (!home.hasBath(b)) {
            return UNKNOWN;
        }
        return what < 0 || what > 3 ? OUTSIDE : home.ofBath(b, what);
    }

    public int bather(int k, int what) {
        if (!home.hasBather(k)) {
            return UNKNOWN;
        }
        if (what == 4) {
            return ends.lowest(1 << k);
        }
        if (what == 5) {
            return ends.highest(1 << k);
        }
        return what < 0 || what > 3 ? OUTSIDE : home.ofBather(k, what);
    }

    public int height(int b, int hour, int set) {
        if (!home.hasBath(b) || !home.hasSet(set)) {
            return UNKNOWN;
        }
        return isHour(hour) ? home.heightOf(b, hour, home.inTruth(set)) : OUTSIDE;
    }

    public int span(int b, int hour, int height, int what) {
        if (!home.hasBath(b)) {
            return UNKNOWN;
        }
        if (!isHour(hour) || !isHeight(height) || what < 0 || what > 1) {
            return OUTSIDE;
        }
        return what == 0 ? home.leastOf(b, hour, height) : home.greatestOf(b, hour, height);
    }

    // ---- mornings

    public int morning(int b, int hour, int set, int height) {
        int refusal = refusalOfRow(b, hour, set, height, mornings);
        if (refusal != 0) {
            return refusal;
        }
        mornings.add(b, hour, set, height);
        learn();
        return mornings.count;
    }

    public int strike(int i) {
        if (i < 0 || i >= mornings.count) {
            return UNKNOWN;
        }
        mornings.drop(i);
        learn();
        return mornings.count;
    }

    public int wrong() {
        return ends.clash ? falsehood.fewest(home, mornings) : 0;
    }

    public int canBe(int b, int hour, int height, int i) {
        if (!home.hasBath(b)) {
            return UNKNOWN;
        }
        if (!isHour(hour) || !isHeight(height)) {
            return OUTSIDE;
        }
        int least = home.leastOf(b, hour, height);
        int greatest = home.greatestOf(b, hour, height);
        int many = 0;
        for (int set = 0; set < home.sets(); set++) {
            if (ends.allow(set, least, greatest)) {
                if (many == i) {
                    return set;
                }
                many++;
            }
        }
        return i == NONE ? many : NONE;
    }

    public int likely(int b, int hour, int height, int k) {
        if (!home.hasBath(b) || !home.hasBather(k)) {
            return UNKNOWN;
        }
        if (!isHour(hour) || !isHeight(height)) {
            return OUTSIDE;
        }
        int least = home.leastOf(b, hour, height);
        int greatest = home.greatestOf(b, hour, height);
        long all = 0;
        long with = 0;
        for (int set = 0; set < home.sets(); set++) {
            if (ends.allow(set, least, greatest)) {
                int part = home.oddsOf(set);
                all += part;
                with += has(set, k) ? part : 0;
            }
        }
        return all > 0 ? (int) (with * MILLION / all) : 0;
    }

    public int odds(int set) {
        return home.hasSet(set) ? home.oddsOf(set) : UNKNOWN;
    }

    // ---- cases

    public int tells(int b, int set, int which) {
        if (!home.hasBath(b) || !home.hasSet(set) || set == 0 || !home.hasCase(which)) {
            return UNKNOWN;
        }
        return home.heightOf(b, 0, home.inCase(set, which));
    }

    public int alike(int which) {
        if (!home.hasCase(which)) {
            return UNKNOWN;
        }
        tables.build(home);
        return tables.alikeTo(which);
    }

    public int needed(int cases, int what) {
        tables.build(home);
        if ((cases & ~tables.present) != 0) {
            return UNKNOWN;
        }
        if (what < 0 || what > 2) {
            return OUTSIDE;
        }
        int open = tables.merged(cases);
        int tries = tables.fewest(open);
        if (what == 0) {
            return tries;
        }
        int first = tables.first(open, tries);
        if (first == NONE) {
            return NONE;
        }
        return what == 1 ? Cases.bathOf(first) : Cases.setOf(first);
    }

    public int away() {
        tables.build(home);
        int all = tables.indispensable(home.bathers);
        return all == 0 ? NONE : Integer.numberOfTrailingZeros(all);
    }

    public int called(int g, int what) {
        if (g < 0 || g > 999 || what < 0 || what > 1) {
            return OUTSIDE;
        }
        if (home.baths == 0) {
            return NOT;
        }
        int b = home.finest();
        int many = 0;
        int widest = 0;
        for (int k = 0; k < home.bathers; k++) {
            int low = ends.lowest(1 << k);
            int high = ends.highest(1 << k);
            if (high - low > g) {
                many++;
                int height = home.heightOf(b, 0, home.inTruth(1 << k));
                low = Math.max(low, home.leastOf(b, 0, height));
                high = Math.min(high, home.greatestOf(b, 0, height));
            }
            widest = Math.max(widest, high - low);
        }
        return what == 0 ? many : widest;
    }

    // ---- books, draws, images

    public int write(int b, int hour, int set, int height) {
        int refusal = refusalOfRow(b, hour, set, height, entries);
        if (refusal != 0) {
            return refusal;
        }
        entries.add(b, hour, set, height);
        return entries.count;
    }

    public int tear() {
        int had = entries.count;
        entries.count = 0;
        return had;
    }

    public int judge() {
        for (int i = 0; i < entries.count; i++) {
            int inTruth = home.inTruth(entries.setAt(i));
            if (entries.heightAt(i) != home.heightOf(entries.bathAt(i), entries.hourAt(i), inTruth)) {
                return i;
            }
        }
        return NONE;
    }

    public int drift(int b, int n) {
        if (!home.hasBath(b)) {
            return UNKNOWN;
        }
        if (n < 1 || n > 30) {
            return OUTSIDE;
        }
        for (int i = 0; i < n; i++) {
            int set = drawSet();
            int hour = draw(4);
            mornings.add(b, hour, set, home.heightOf(b, hour, home.inTruth(set)));
        }
        learn();
        return mornings.count;
    }

    public int forget() {
        int had = mornings.count;
        mornings.count = 0;
        learn();
        return had;
    }

    public int seed(int v) {
        if (v < 0) {
            return OUTSIDE;
        }
        int was = drawn;
        drawn = v;
        return was;
    }

    public int keep(int i) {
        Image image = imageAt(i);
        if (image == null) {
            return UNKNOWN;
        }
        image.mornings.copy(mornings);
        image.drawn = drawn;
        image.kept = true;
        return 1;
    }

    public int goBack(int i) {
        Image image = imageAt(i);
        if (image == null) {
            return UNKNOWN;
        }
        if (!image.kept) {
            return NOT;
        }
        mornings.copy(image.mornings);
        drawn = image.drawn;
        learn();
        return 1;
    }

    // ---- what the calls share

    /** What ENDS, CLASH and FALSE say hangs on house and mornings alone, so it is found once, when these change. */
    private void learn() {
        ends.learn(home, mornings);
        falsehood.found = false;
    }

    private int refusalOfRow(int b, int hour, int set, int height, Rows rows) {
        if (!home.hasBath(b) || !home.hasSet(set)) {
            return UNKNOWN;
        }
        if (!isHour(hour) || !isHeight(height)) {
            return OUTSIDE;
        }
        return rows.hasRoom() ? 0 : FULL;
    }

    private Image imageAt(int i) {
        if (i == 0) {
            return image0;
        }
        return i == 1 ? image1 : null;
    }

    private int drawSet() {
        int set = 0;
        for (int k = 0; k < home.bathers; k++) {
            if (draw(100) < home.ofBather(k, House.COMES)) {
                set |= 1 << k;
            }
        }
        return set;
    }

    private int draw(int n) {
        drawn = (int) ((drawn * 1103515245L + 12345L) & GREATEST_SEED);
        return n > 0 ? drawn / 65536 % n : 0;
    }

    private static boolean isHour(int hour) {
        return hour >= 0 && hour < HOURS;
    }

    private static boolean isHeight(int height) {
        return height >= 0 && height < HEIGHTS;
    }

    private static boolean has(int set, int k) {
        return (set >> k & 1) != 0;
    }

    /** Baths and bathers as the text tells them. */
    private static final class House {
        static final int AREA = 0, FINGER = 1, WATER = 2, LEAK = 3;
        static final int LEAST = 0, MOST = 1, TRUTH = 2, COMES = 3;
        static final int FIELDS = 4, ODD = 5, RAIL_CASES = 7;

        final int[] bathRows = new int[BATHS * FIELDS];
        final int[] batherRows = new int[BATHERS * FIELDS];
        int baths;
        int bathers;
        int odd = ODD;

        void clear() {
            baths = 0;
            bathers = 0;
            odd = ODD;
        }

        void addBath(int area, int finger, int water, int leak) {
            if (baths < BATHS) {
                fill(bathRows, baths, area, finger, water, leak);
                baths++;
            }
        }

        void addBather(int least, int most, int truth, int comes) {
            if (bathers < BATHERS) {
                fill(batherRows, bathers, least, most, truth, comes);
                bathers++;
            }
        }

        private static void fill(int[] rows, int row, int a, int b, int c, int d) {
            int from = row * FIELDS;
            if (from >= 0 && from + 3 < rows.length) {
                rows[from] = a;
                rows[from + 1] = b;
                rows[from + 2] = c;
                rows[from + 3] = d;
            }
        }

        boolean hasBath(int b) {
            return b >= 0 && b < baths;
        }

        boolean hasBather(int k) {
            return k >= 0 && k < bathers;
        }

        boolean hasSet(int set) {
            return set >= 0 && set < sets();
        }

        boolean hasCase(int which) {
            return which == 0 || hasBather(which - 1) || hasBather(which - RAIL_CASES);
        }

        int sets() {
            return 1 << bathers;
        }

        int ofBath(int b, int what) {
            int cell = b * FIELDS + what;
            return cell >= 0 && cell < bathRows.length ? bathRows[cell] : 0;
        }

        int ofBather(int k, int what) {
            int cell = k * FIELDS + what;
            return cell >= 0 && cell < batherRows.length ? batherRows[cell] : 0;
        }

        /** How much of size makes one finger more; never 0, for it divides. */
        int measure(int b) {
            return Math.max(1, ofBath(b, AREA) * ofBath(b, FINGER));
        }

        int waterAt(int b, int hour) {
            return Math.max(0, ofBath(b, WATER) - ofBath(b, LEAK) * hour);
        }

        int heightOf(int b, int hour, int size) {
            return (waterAt(b, hour) + size) / measure(b);
        }

        int leastOf(int b, int hour, int height) {
            int beyondWater = height * measure(b) - waterAt(b, hour);
            return beyondWater + measure(b) > 0 ? Math.max(0, beyondWater) : NONE;
        }

        int greatestOf(int b, int hour, int height) {
            int beyondWater = height * measure(b) - waterAt(b, hour);
            return Math.max(NONE, beyondWater + measure(b) - 1);
        }

        int finest() {
            return baths == BATHS && measure(1) < measure(0) ? 1 : 0;
        }

        int inTruth(int set) {
            return inCase(set, 0);
        }

        int inCase(int set, int which) {
            int sum = 0;
            for (int k = 0; k < bathers; k++) {
                if (has(set, k) && which != RAIL_CASES + k) {
                    sum += ofBather(k, TRUTH) + (which == 1 + k ? odd : 0);
                }
            }
            return sum;
        }

        int oddsOf(int set) {
            long share = BILLION;
            for (int k = 0; k < bathers; k++) {
                int comes = ofBather(k, COMES);
                share = share * (has(set, k) ? comes : 100 - comes) / 100;
            }
            return (int) share;
        }
    }

    /** THE TEXT, and how it is read, from the first byte on, till it ends or has a fault. */
    private static final class Reader {
        static final int CANNOT_STAND = 1, BAD_NUMBER = 2, TOO_MANY = 3, BAD_ORDER = 4;
        static final int FIGURES = 4;

        final byte[] bytes = new byte[BYTES];
        int length;
        int fault;
        int place = NONE;
        private int at;
        private int numberAt;
        private boolean oddTold;

        boolean take(int n, long more) {
            if (n < 1 || n > 8 || length + n > bytes.length) {
                return false;
            }
            for (int i = n - 1; i >= 0; i--) {
                if (length < bytes.length) {
                    bytes[length] = (byte) (more >>> (8 * i));
                    length++;
                }
            }
            return true;
        }

        void read(House into) {
            into.clear();
            fault = 0;
            place = NONE;
            at = 0;
            oddTold = false;
            skipBlanks();
            for (int clause = 0; clause < BYTES && at < length && fault == 0; clause++) {
                readClause(into);
                skipBlanks();
            }
            length = 0;
        }

        private void readClause(House into) {
            int start = at;
            for (int i = 0; i < BYTES && isLetter(signAt(at)); i++) {
                at++;
            }
            if (wordIs("bath", start)) {
                failIf(into.baths >= BATHS, TOO_MANY, start);
                readBath(into);
            } else if (wordIs("bather", start)) {
                failIf(into.bathers >= BATHERS, TOO_MANY, start);
                readBather(into);
            } else if (wordIs("odd", start)) {
                failIf(oddTold, TOO_MANY, start);
                readOdd(into);
            } else {
                failIf(true, CANNOT_STAND, start);
            }
        }

        private void readBath(House into) {
            int area = readNumber(1, 99);
            int finger = readNumber(1, 99);
            int water = readNumber(0, 9999);
            int leak = readNumber(0, 99);
            readEnd();
            if (fault == 0) {
                into.addBath(area, finger, water, leak);
            }
        }

        private void readBather(House into) {
            int least = readNumber(1, 999);
            int most = readNumber(1, 999);
            failIf(most < least, BAD_ORDER, numberAt);
            int truth = readNumber(1, 999);
            failIf(truth < least || truth > most, BAD_ORDER, numberAt);
            int comes = readNumber(0, 100);
            readEnd();
            if (fault == 0) {
                into.addBather(least, most, truth, comes);
            }
        }

        private void readOdd(House into) {
            int more = readNumber(1, 999);
            readEnd();
            if (fault == 0) {
                into.odd = more;
                oddTold = true;
            }
        }

        /** Reads nothing behind a fault: the first one is the one that is told. */
        private int readNumber(int least, int most) {
            if (fault != 0) {
                return NONE;
            }
            skipBlanks();
            numberAt = at;
            int value = 0;
            for (int i = 0; i < BYTES && isFigure(signAt(at)); i++) {
                // More figures than a NUMBER has are a fault by their count; they must not overflow the value.
                value = i < FIGURES ? value * 10 + (signAt(at) - '0') : value;
                at++;
            }
            failIf(at == numberAt, CANNOT_STAND, at);
            failIf(at - numberAt > FIGURES || value < least || value > most, BAD_NUMBER, numberAt);
            return value;
        }

        private void readEnd() {
            if (fault != 0) {
                return;
            }
            skipBlanks();
            failIf(signAt(at) != ';', CANNOT_STAND, at);
            at++;
        }

        private void skipBlanks() {
            for (int i = 0; i < BYTES && signAt(at) == ' '; i++) {
                at++;
            }
        }

        private void failIf(boolean wrongHere, int number, int where) {
            if (wrongHere && fault == 0) {
                fault = number;
                place = where;
            }
        }

        private boolean wordIs(String word, int start) {
            if (at - start != word.length()) {
                return false;
            }
            for (int i = 0; i < word.length(); i++) {
                if (signAt(start + i) != word.charAt(i)) {
                    return false;
                }
            }
            return true;
        }

        /** The byte at a place; -1 behind the text's end, which is no sign of any clause. */
        private int signAt(int i) {
            return i >= 0 && i < length && i < bytes.length ? bytes[i] & 255 : -1;
        }

        private static boolean isLetter(int sign) {
            return sign >= 'a' && sign <= 'z';
        }

        private static boolean isFigure(int sign) {
            return sign >= '0' && sign <= '9';
        }
    }

    /** Rows of bath, hour, set and height, as many as there is room for: mornings or a book. */
    private static final class Rows {
        static final int FIELDS = 4;

        final int[] cells;
        int count;

        Rows(int most) {
            cells = new int[Math.max(0, most) * FIELDS];
        }

        boolean hasRoom() {
            return count * FIELDS < cells.length;
        }

        void add(int bath, int hour, int set, int height) {
            int from = count * FIELDS;
            if (from >= 0 && from + 3 < cells.length) {
                cells[from] = bath;
                cells[from + 1] = hour;
                cells[from + 2] = set;
                cells[from + 3] = height;
                count++;
            }
        }

        void drop(int i) {
            if (i < 0 || i >= count) {
                return;
            }
            for (int cell = i * FIELDS; cell + FIELDS < cells.length; cell++) {
                cells[cell] = cells[cell + FIELDS];
            }
            count--;
        }

        void copy(Rows other) {
            for (int cell = 0; cell < cells.length && cell < other.cells.length; cell++) {
                cells[cell] = other.cells[cell];
            }
            count = other.count;
        }

        int bathAt(int i) {
            return cellAt(i, 0);
        }

        int hourAt(int i) {
            return cellAt(i, 1);
        }

        int setAt(int i) {
            return cellAt(i, 2);
        }

        int heightAt(int i) {
            return cellAt(i, 3);
        }

        private int cellAt(int i, int what) {
            int cell = i * FIELDS + what;
            return i >= 0 && i < count && cell >= 0 && cell < cells.length ? cells[cell] : 0;
        }
    }

    /** What is kept to go on from. */
    private static final class Image {
        final Rows mornings = new Rows(MORNINGS);
        int drawn;
        boolean kept;
    }

    /** The ends between which sizes lie, narrowed by mornings. */
    private static final class Ends {
        static final int STILL = 0, MOVED = 1, CLASHED = 2;
        /** Each round but the last moves an end by 1 at least, and all ends together have less than 12000 to go. */
        static final int ROUNDS = 20000;

        final int[] lower = new int[BATHERS];
        final int[] upper = new int[BATHERS];
        final int[] sets = new int[MORNINGS];
        final int[] least = new int[MORNINGS];
        final int[] greatest = new int[MORNINGS];
        boolean clash;

        void learn(House home, Rows mornings) {
            load(home, mornings);
            clash = !stands(home, (1 << mornings.count) - 1);
            if (clash) {
                reset(home);
            }
        }

        void load(House home, Rows mornings) {
            for (int m = 0; m < sets.length && m < least.length && m < greatest.length; m++) {
                int b = mornings.bathAt(m);
                int hour = mornings.hourAt(m);
                int height = mornings.heightAt(m);
                sets[m] = mornings.setAt(m);
                least[m] = home.leastOf(b, hour, height);
                greatest[m] = home.greatestOf(b, hour, height);
            }
        }

        private void reset(House home) {
            for (int k = 0; k < lower.length && k < upper.length; k++) {
                lower[k] = home.ofBather(k, House.LEAST);
                upper[k] = home.ofBather(k, House.MOST);
            }
        }

        /** Narrows by the mornings of a set of them; whether there is no clash. */
        boolean stands(House home, int told) {
            reset(home);
            boolean moved = true;
            for (int round = 0; moved && round < ROUNDS; round++) {
                moved = false;
                for (int m = 0; m < sets.length; m++) {
                    int step = has(told, m) ? narrow(m) : STILL;
                    if (step == CLASHED) {
                        return false;
                    }
                    moved = moved || step == MOVED;
                }
            }
            return true;
        }

        private int narrow(int m) {
            if (m < 0 || m >= sets.length || m >= least.length || m >= greatest.length) {
                return STILL;
            }
            int set = sets[m];
            if (least[m] == NONE || set == 0 && least[m] != 0) {
                return CLASHED;
            }
            int lows = sum(lower, set);
            int highs = sum(upper, set);
            int step = STILL;
            for (int k = 0; k < lower.length && k < upper.length; k++) {
                if (!has(set, k)) {
                    continue;
                }
                int low = Math.max(lower[k], least[m] - (highs - upper[k]));
                int high = Math.min(upper[k], greatest[m] - (lows - lower[k]));
                if (low > high) {
                    return CLASHED;
                }
                if (low != lower[k] || high != upper[k]) {
                    step = MOVED;
                    lows += low - lower[k];
                    highs += high - upper[k];
                    lower[k] = low;
                    upper[k] = high;
                }
            }
            return step;
        }

        int lowest(int set) {
            return sum(lower, set);
        }

        int highest(int set) {
            return sum(upper, set);
        }

        private static int sum(int[] row, int set) {
            int sum = 0;
            for (int k = 0; k < row.length; k++) {
                sum += (set >> k & 1) * row[k];
            }
            return sum;
        }

        /** Whether a set can be in, by a height that the sizes from least to greatest have (NONE: none has it). */
        boolean allow(int set, int from, int to) {
            return to != NONE && lowest(set) <= to && highest(set) >= from;
        }
    }

    /**
     * The fewest mornings that are false. What clashes, clashes with more mornings too; so of each clash that is met
     * its core is kept (mornings that clash, but not without any one of them), and sets that leave a core whole
     * need no narrowing.
     */
    private static final class Falsehood {
        /** More sets of 12 mornings, none within another, there cannot be. */
        static final int CORES = 924;

        final Ends trial = new Ends();
        final int[] cores = new int[CORES];
        int coreCount;
        boolean found;
        int falseOnes;

        int fewest(House home, Rows mornings) {
            if (found) {
                return falseOnes;
            }
            trial.load(home, mornings);
            coreCount = 0;
            found = true;
            int all = (1 << mornings.count) - 1;
            falseOnes = all;
            for (int many = 0; many < mornings.count && falseOnes == all; many++) {
                int out = (1 << many) - 1;
                for (int turn = 0; turn <= all && out <= all && falseOnes == all; turn++) {
                    falseOnes = isFree(home, out, all) ? out : all;
                    out = nextOfLikeCount(out, all);
                }
            }
            return falseOnes;
        }

        private boolean isFree(House home, int out, int all) {
            for (int i = 0; i < coreCount && i < cores.length; i++) {
                if ((cores[i] & out) == 0) {
                    return false;
                }
            }
            if (trial.stands(home, all & ~out)) {
                return true;
            }
            if (coreCount < cores.length) {
                cores[coreCount] = coreOf(home, all & ~out);
                coreCount++;
            }
            return false;
        }

        private int coreOf(House home, int told) {
            int core = told;
            for (int m = 0; m < MORNINGS; m++) {
                if (has(core, m) && !trial.stands(home, core & ~(1 << m))) {
                    core &= ~(1 << m);
                }
            }
            return core;
        }

        /** The next greater set with as many in it; one beyond all when there is none (none has none). */
        private static int nextOfLikeCount(int set, int all) {
            if (set == 0) {
                return all + 1;
            }
            int low = set & -set;
            int risen = set + low;
            return risen | ((risen ^ set) >>> (2 + Integer.numberOfTrailingZeros(low)));
        }
    }

    /** What tries part which cases: tables that hang on the house alone, made when they are first asked for. */
    private static final class Cases {
        static final int CASES = 13, SETS = 64, TRIES = BATHS * SETS, NIBBLE = 4, DEEPEST = 13;

        /** By try: for each case, in four bits, the least case of which the try tells the same height. */
        final long[] leaders = new long[TRIES];
        /** The tries that part some cases; one that parts all just as an earlier one is never the first that serves. */
        final int[] useful = new int[TRIES];
        /** By useful try: the sets of cases that it holds together, 0 behind the last. */
        final int[] parts = new int[TRIES * CASES];
        final int[] alikes = new int[CASES];
        /** By set of cases: below 16 the most tries that are not enough; above, the fewest that are (0: not known). */
        final int[] known = new int[1 << CASES];
        final int[] heights = new int[CASES];
        int usefulCount;
        int present;
        boolean built;

        void build(House home) {
            if (built) {
                return;
            }
            built = true;
            present = presentIn(home);
            usefulCount = 0;
            Arrays.fill(known, 0);
            Arrays.fill(alikes, present);
            for (int t = 0; t < leaders.length; t++) {
                leaders[t] = home.hasBath(bathOf(t)) && home.hasSet(setOf(t)) ? leadersOf(home, t) : 0;
                if (leaders[t] != 0 && isNew(t)) {
                    addUseful(t);
                }
            }
        }

        static int bathOf(int t) {
            return t / SETS;
        }

        static int setOf(int t) {
            return t % SETS;
        }

        private static int presentIn(House home) {
            int set = 0;
            for (int c = 0; c < CASES; c++) {
                set |= home.hasCase(c) ? 1 << c : 0;
            }
            return set;
        }

        /** 0 if the try parts nothing: case 0 leads all then. */
        private long leadersOf(House home, int t) {
            long all = 0;
            for (int c = 0; c < heights.length; c++) {
                if (has(present, c)) {
                    heights[c] = home.heightOf(bathOf(t), 0, home.inCase(setOf(t), c));
                    all |= (long) leaderOf(c) << (NIBBLE * c);
                }
            }
            return all;
        }

        private int leaderOf(int c) {
            for (int other = 0; other < c && c < heights.length; other++) {
                if (has(present, other) && heights[other] == heights[c]) {
                    return other;
                }
            }
            return c;
        }

        private boolean isNew(int t) {
            for (int u = 0; u < usefulCount && u < useful.length; u++) {
                if (leadersAt(useful[u]) == leadersAt(t)) {
                    return false;
                }
            }
            return true;
        }

        private void addUseful(int t) {
            if (usefulCount >= useful.length) {
                return;
            }
            useful[usefulCount] = t;
            int part = usefulCount * CASES;
            usefulCount++;
            for (int c = 0; c < CASES; c++) {
                int together = togetherWith(leadersAt(t), c);
                if (together != 0 && part < parts.length) {
                    parts[part] = together;
                    part++;
                    partAlikes(together);
                }
            }
            if (part < usefulCount * CASES && part < parts.length) {
                parts[part] = 0;
            }
        }

        /** The cases that case c leads. */
        private int togetherWith(long all, int c) {
            int together = 0;
            for (int other = c; other < CASES; other++) {
                if (has(present, other) && leaderIn(all, other) == c) {
                    together |= 1 << other;
                }
            }
            return together;
        }

        private void partAlikes(int together) {
            for (int c = 0; c < alikes.length; c++) {
                if (has(together, c)) {
                    alikes[c] &= together;
                }
            }
        }

        private long leadersAt(int t) {
            return t >= 0 && t < leaders.length ? leaders[t] : 0;
        }

        private static int leaderIn(long all, int c) {
            return (int) (all >>> (NIBBLE * c)) & 15;
        }

        int alikeTo(int c) {
            return c >= 0 && c < alikes.length ? alikes[c] : 0;
        }

        /** One case for all that are alike: the least of them, that may stand for them as no try parts it from them. */
        int merged(int set) {
            int leads = 0;
            for (int c = 0; c < CASES; c++) {
                if (has(set, c)) {
                    leads |= alikeTo(c) & -alikeTo(c);
                }
            }
            return leads;
        }

        /** For a merged set; each try that serves takes one case off at least, so that there always is an end. */
        int fewest(int open) {
            int tries = 0;
            while (tries < DEEPEST && !isEnough(this, open, tries)) {
                tries++;
            }
            return tries;
        }

        /** The first try by which a merged set is told in so many. */
        int first(int open, int tries) {
            for (int u = 0; tries > 0 && u < usefulCount && u < useful.length; u++) {
                if (partsEnough(this, u, open, tries - 1)) {
                    return useful[u];
                }
            }
            return NONE;
        }

        private static boolean isEnough(Cases tables, int open, int tries) {
            if ((open & (open - 1)) == 0) {
                return true;
            }
            if (tries <= 0 || open < 0 || open >= tables.known.length) {
                return false;
            }
            int notEnough = tables.known[open] & 15;
            int enough = tables.known[open] >> 4;
            if (tries <= notEnough || enough != 0 && tries >= enough) {
                return tries > notEnough;
            }
            boolean found = false;
            for (int u = 0; !found && u < tables.usefulCount; u++) {
                found = partsEnough(tables, u, open, tries - 1);
            }
            tables.known[open] = found ? notEnough | tries << 4 : tries | enough << 4;
            return found;
        }

        private static boolean partsEnough(Cases tables, int u, int open, int tries) {
            for (int part = u * CASES; part < (u + 1) * CASES; part++) {
                int held = part >= 0 && part < tables.parts.length ? tables.parts[part] : 0;
                if (held == 0) {
                    return true;
                }
                int left = open & held;
                if (left == open || !isEnough(tables, left, tries)) {
                    return false;
                }
            }
            return true;
        }

        /** The bathers without whom, one by one, two cases of 1 and on are no more parted: in all tries that part them. */
        int indispensable(int bathers) {
            int all = 0;
            for (int c = 1; c <= bathers; c++) {
                for (int other = 1; other < c; other++) {
                    all |= inAllThatPart(c, other);
                }
            }
            return all;
        }

        private int inAllThatPart(int c, int other) {
            int inAll = NONE;
            for (int t = 0; t < leaders.length; t++) {
                if (leaderIn(leaders[t], c) != leaderIn(leaders[t], other)) {
                    inAll &= setOf(t);
                }
            }
            return inAll == NONE ? 0 : inAll;
        }
    }
}
