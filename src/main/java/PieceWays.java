/**
 * Ways from some bytes to others: pieces that are copied from a base, and bytes as they are;
 * written as a row of bytes, and gone on any base.
 */
public final class PieceWays {
    public static final int NONE = -1;

    private static final int COPY = 1;
    private static final int PLAIN = 2;

    private static final int BLOCK = 8;
    private static final int MOST_BYTES = 600;
    private static final int MOST_AT_ONCE = 8;

    /**
     * A PLAIN costs three bytes more than it holds, a COPY at least three fewer than it copies, and
     * between two PLAIN stands a COPY: the row is at most three bytes longer than the target.
     */
    private static final int MOST_IN_ROW = 603;

    /** One PLAIN byte and a COPY of eight, by turns, are the most pieces: 66 times, and a PLAIN. */
    private static final int MOST_PIECES = 133;

    private final Bytes base = new Bytes();
    private final Bytes target = new Bytes();
    private final Bytes result = new Bytes();

    private final Pieces pieces = new Pieces();
    /** The target as it was when the way was found: its PLAIN pieces point into it. */
    private final Bytes targetThen = new Bytes();
    private final Bytes row = new Bytes();

    public PieceWays() {
    }

    public boolean put(boolean target, long v, int n) {
        Bytes to = target ? this.target : base;
        if (n < 0 || n > MOST_AT_ONCE || n > MOST_BYTES - to.length()) {
            return false;
        }
        for (int i = n - 1; i >= 0; i--) {
            to.add((int) (v >>> (8 * i)));
        }
        return true;
    }

    public void clear(boolean target) {
        Bytes which = target ? this.target : base;
        which.empty();
    }

    public int make() {
        targetThen.empty();
        targetThen.addFrom(target, 0, target.length());
        findPieces();
        writeRow();
        return pieces.number();
    }

    public int piece(int i, int what) {
        switch (what) {
            case 0:
                return pieces.kind(i);
            case 1:
                return pieces.begin(i);
            case 2:
                return pieces.length(i);
            default:
                return NONE;
        }
    }

    public int size() {
        return row.length();
    }

    public int way(int i) {
        return row.at(i);
    }

    public int go() throws IllegalStateException {
        // Looked at before the first byte is written, so that the old result outlives a refusal.
        if (pieces.copiedEnd() > base.length()) {
            throw new IllegalStateException("the way copies what the base has not");
        }
        result.empty();
        for (int i = 0; i < pieces.number(); i++) {
            Bytes from = pieces.kind(i) == COPY ? base : targetThen;
            result.addFrom(from, pieces.begin(i), pieces.length(i));
        }
        return result.length();
    }

    public int result(int i) {
        return result.at(i);
    }

    public int count(int what) {
        switch (what) {
            case 0:
                return base.length();
            case 1:
                return target.length();
            case 2:
                return result.length();
            default:
                return NONE;
        }
    }

    private void findPieces() {
        pieces.empty();
        int place = 0;
        while (place < target.length()) {
            int block = longestBlock(place);
            if (block == NONE) {
                pieces.addPlainByte(place);
                place++;
            } else {
                int n = alike(block, place);
                pieces.add(COPY, block, n);
                // A whole block is alike, so n is never less; max lets the loop's end be seen here.
                place += Math.max(n, BLOCK);
            }
        }
    }

    /** Where the block begins from which the most bytes are alike to the target's, or NONE. */
    private int longestBlock(int place) {
        int longest = NONE;
        int most = BLOCK - 1;
        for (int block = 0; block + BLOCK <= base.length(); block += BLOCK) {
            int n = alike(block, place);
            // Only more, not as many: of blocks with as many the first one counts.
            if (n > most) {
                most = n;
                longest = block;
            }
        }
        return longest;
    }

    private int alike(int basePlace, int targetPlace) {
        int most = Math.min(base.length() - basePlace, target.length() - targetPlace);
        int n = 0;
        while (n < most && base.at(basePlace + n) == target.at(targetPlace + n)) {
            n++;
        }
        return n;
    }

    private void writeRow() {
        row.empty();
        for (int i = 0; i < pieces.number(); i++) {
            row.add(pieces.kind(i));
            if (pieces.kind(i) == COPY) {
                row.addTwo(pieces.begin(i));
                row.addTwo(pieces.length(i));
            } else {
                row.addTwo(pieces.length(i));
                row.addFrom(targetThen, pieces.begin(i), pieces.length(i));
            }
        }
    }

    /** A row of bytes, with room for the longest one that there can be; NONE where it has none. */
    private static final class Bytes {
        private final byte[] held = new byte[MOST_IN_ROW];
        private int used = 0;

        int length() {
            return used;
        }

        int at(int i) {
            if (i < 0 || i >= used || i >= held.length) {
                return NONE;
            }
            return held[i] & 255;
        }

        void empty() {
            used = 0;
        }

        void add(int b) {
            if (used < 0 || used >= held.length) {
                return;
            }
            held[used] = (byte) b;
            used++;
        }

        void addTwo(int number) {
            add(number >> 8);
            add(number);
        }

        void addFrom(Bytes from, int begin, int n) {
            for (int i = 0; i < n; i++) {
                add(from.at(begin + i));
            }
        }
    }

    /** The pieces of a way, in their order; NONE where there is none. */
    private static final class Pieces {
        private final int[] kinds = new int[MOST_PIECES];
        private final int[] begins = new int[MOST_PIECES];
        private final int[] lengths = new int[MOST_PIECES];
        private int used = 0;

        int number() {
            return used;
        }

        int kind(int i) {
            return isThere(i) ? kinds[i] : NONE;
        }

        int begin(int i) {
            return isThere(i) ? begins[i] : NONE;
        }

        int length(int i) {
            return isThere(i) ? lengths[i] : NONE;
        }

        void empty() {
            used = 0;
        }

        void add(int kind, int begin, int length) {
            if (used < 0 || used >= MOST_PIECES) {
                return;
            }
            kinds[used] = kind;
            begins[used] = begin;
            lengths[used] = length;
            used++;
        }

        void addPlainByte(int place) {
            int last = used - 1;
            if (isThere(last) && kinds[last] == PLAIN) {
                lengths[last]++;
            } else {
                add(PLAIN, place, 1);
            }
        }

        /** How many bytes a base must have for every COPY to find its bytes. */
        int copiedEnd() {
            int end = 0;
            for (int i = 0; i < used; i++) {
                if (kind(i) == COPY) {
                    end = Math.max(end, begin(i) + length(i));
                }
            }
            return end;
        }

        private boolean isThere(int i) {
            return i >= 0 && i < used && i < MOST_PIECES;
        }
    }
}
