/** What the tests share: answers held against those that are due, and houses made of texts. */
abstract class Asker {
    static final int NONE = -1, UNKNOWN = -1000000001, OUTSIDE = -1000000002, NOT = -1000000003, FULL = -1000000004;
    static final int LEAST = Integer.MIN_VALUE, MOST = Integer.MAX_VALUE;

    private static int wrong;
    private static int asked;
    private static String about = "";

    /** What the answers that are asked next must hold: a promise, or a sentence of the document. */
    static void about(String words) {
        about = words;
    }

    static void due(String call, int is, int due) {
        asked++;
        if (is != due) {
            wrong++;
            System.out.println(about + ": " + call + " answered " + is + ", due is " + due);
        }
    }

    static void finish() {
        System.out.println(asked + " answers asked, " + wrong + " wrong");
        if (wrong != 0) {
            System.exit(1);
        }
    }

    static String times(int n, String text) {
        return text.repeat(n);
    }

    static long bytesOf(String text) {
        long bytes = 0;
        for (int at = 0; at < text.length(); at++) {
            bytes = bytes << 8 | text.charAt(at) & 255;
        }
        return bytes;
    }

    /** Eight bytes a call: an object is used for 512 calls alone. */
    static void put(BathWater x, String text) {
        for (int at = 0; at < text.length(); at += 8) {
            String piece = text.substring(at, Math.min(at + 8, text.length()));
            x.feed(piece.length(), bytesOf(piece));
        }
    }

    static BathWater with(String text) {
        BathWater x = new BathWater();
        put(x, text);
        if (x.house() < 0) {
            throw new IllegalArgumentException(text);
        }
        return x;
    }
}
