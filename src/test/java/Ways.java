/** A PieceWays as the tests use it: bytes as texts, and no call after the 512th, which is free. */
final class Ways {
    static final boolean BASE = false;
    static final boolean TARGET = true;
    static final int NONE = PieceWays.NONE;

    private static final int MOST_CALLS = 512;

    private final PieceWays ways = new PieceWays();
    private int calls = 0;

    static Ways of(String base, String target) {
        Ways x = new Ways();
        x.text(BASE, base);
        x.text(TARGET, target);
        return x;
    }

    static Ways made(String base, String target) {
        Ways x = of(base, target);
        x.make();
        return x;
    }

    // The calls of the document's face

    boolean put(boolean target, long v, int n) {
        return counted().put(target, v, n);
    }

    void clear(boolean target) {
        counted().clear(target);
    }

    int make() {
        return counted().make();
    }

    int piece(int i, int what) {
        return counted().piece(i, what);
    }

    int size() {
        return counted().size();
    }

    int way(int i) {
        return counted().way(i);
    }

    /** The number of bytes, or the name of what was thrown. */
    String go() {
        try {
            return String.valueOf(counted().go());
        } catch (RuntimeException e) {
            return e.getClass().getSimpleName();
        }
    }

    int result(int i) {
        return counted().result(i);
    }

    int count(int what) {
        return counted().count(what);
    }

    /** How many calls are left whose answers are promised. */
    int left() {
        return MOST_CALLS - calls;
    }

    private PieceWays counted() {
        calls++;
        if (calls == MOST_CALLS + 1) {
            Due.same("a test's calls on one object", calls, MOST_CALLS);
        }
        return ways;
    }

    // What the tests make of them

    /** Each character is a byte; eight of them a call. */
    void text(boolean target, String text) {
        for (int from = 0; from < text.length(); from += 8) {
            int n = Math.min(8, text.length() - from);
            long v = 0;
            for (int i = 0; i < n; i++) {
                v = v << 8 | text.charAt(from + i);
            }
            Due.same("put of a text", put(target, v, n), true);
        }
    }

    void textAnew(boolean target, String text) {
        clear(target);
        text(target, text);
    }

    String makeAndTell() {
        int made = make();
        String pieces = pieces();
        Due.same("make for " + pieces, made, pieces.isEmpty() ? 0 : pieces.split(" ").length);
        return pieces;
    }

    /** C is a COPY, P is PLAIN; then where it begins and how many bytes: "P0+2 C8+11". */
    String pieces() {
        StringBuilder all = new StringBuilder();
        for (int i = 0; i < 600 && piece(i, 0) != NONE; i++) {
            int kind = piece(i, 0);
            all.append(i == 0 ? "" : " ");
            all.append(kind == 1 ? "C" : kind == 2 ? "P" : "?");
            all.append(piece(i, 1)).append("+").append(piece(i, 2));
        }
        return all.toString();
    }

    String row() {
        StringBuilder all = new StringBuilder();
        int size = size();
        for (int i = 0; i < size; i++) {
            all.append(i == 0 ? "" : " ").append(way(i));
        }
        Due.same("way behind its size", way(size), NONE);
        return all.toString();
    }

    String resultText() {
        StringBuilder all = new StringBuilder();
        int n = count(2);
        for (int i = 0; i < n; i++) {
            all.append((char) result(i));
        }
        Due.same("result behind its end", result(n), NONE);
        return all.toString();
    }

    String resultHex() {
        StringBuilder all = new StringBuilder();
        for (char c : resultText().toCharArray()) {
            all.append(String.format("%02x", (int) c));
        }
        return all.toString();
    }

    /** 600 bytes of which no eight are alike to another eight. */
    static String marked() {
        StringBuilder all = new StringBuilder();
        for (int i = 0; i < 600; i++) {
            all.append((char) (i % 8 == 0 ? 128 + i / 8 : 240 + i % 8));
        }
        return all.toString();
    }
}
