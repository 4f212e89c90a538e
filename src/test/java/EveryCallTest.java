/** The sentences that speak of every call, held against each promise in each of some states. */
public final class EveryCallTest {
    private static final boolean BASE = Ways.BASE;
    private static final boolean TARGET = Ways.TARGET;
    private static final int MIN = Integer.MIN_VALUE;
    private static final int MAX = Integer.MAX_VALUE;
    private static final int[] EDGES = {
        MIN, MIN + 1, MIN + 8, -65536, -601, -9, -8, -2, -1, 0, 1, 2, 3, 4, 7, 8, 9, 16, 132, 133,
        134, 255, 256, 599, 600, 601, 602, 603, 604, 65535, 65536, MAX - 8, MAX - 1, MAX,
    };
    private static final int[] NOT_EIGHT = {MIN, -1, 9, 600, MAX};
    private static final String REFUSED = "IllegalStateException";
    private static final String MARKED = Ways.marked();
    private static final String MOST = "-abcdefgh".repeat(66) + "------";

    /** What a state is, and behind it what go does there. */
    private static final String[][] STATES = {
        {"new", "0"},
        {"a full base", "0"},
        {"a full target, not made", "0"},
        {"600 plain, gone", "600"},
        {"a copy of 600, gone", "600"},
        {"a copy of 600, now 599 are there", REFUSED},
        {"the most pieces, gone", "600"},
        {"the most pieces, not gone, the base cleared", REFUSED},
        {"three pieces, gone, both cleared", REFUSED},
        {"three pieces, gone, then made of other bytes", "5"},
        {"three pieces, gone, refused, then just enough", "11"},
    };

    private interface Call {
        Object answer();
    }

    public static void main(String[] args) {
        Due.sentence("What it is: An object is used for at most 512 calls after it has been made",
            EveryCallTest::lastCalls);
        Due.sentence("LANGUAGE.md, rule 6: A call of the face throws exactly what and where the"
            + " document says, and nothing else ever reaches its caller.",
            EveryCallTest::onlyGoThrows);
        Due.sentence("LANGUAGE.md, rule 7: No call may ever throw by itself (only by a throw"
            + " statement) or fail to end, for any arguments in any state",
            EveryCallTest::manyMoreCalls);
        Due.sentence("Not promised: Nothing is promised beyond the answers and state changes"
            + " described above", EveryCallTest::askingChangesNothing);
        Due.end();
    }

    private static Ways inState(int state) {
        switch (state) {
            case 1:
                return Ways.of(MARKED, "");
            case 2:
                return Ways.of("", MARKED);
            case 3:
                return gone(Ways.made("", MARKED));
            case 4:
                return gone(Ways.made(MARKED, MARKED));
            case 5:
                Ways shorter = gone(Ways.made(MARKED, MARKED));
                shorter.textAnew(BASE, MARKED.substring(1));
                return shorter;
            case 6:
                return gone(Ways.made("abcdefgh", MOST));
            case 7:
                Ways most = Ways.made("abcdefgh", MOST);
                most.clear(BASE);
                return most;
            case 8:
                Ways cleared = gone(Ways.made("01234567abcdefgh", "xyabcdefghz"));
                cleared.clear(BASE);
                cleared.clear(TARGET);
                return cleared;
            case 9:
                Ways other = gone(Ways.made("01234567abcdefgh", "xyabcdefghz"));
                other.textAnew(TARGET, "other");
                other.make();
                return other;
            case 10:
                Ways enough = gone(Ways.made("01234567abcdefgh", "xyabcdefghz"));
                enough.textAnew(BASE, "ABCDEFGHIJKLMNO");
                enough.go();
                enough.text(BASE, "P");
                return enough;
            default:
                return new Ways();
        }
    }

    private static Ways gone(Ways x) {
        x.go();
        return x;
    }

    // What it is: "An object is used for at most 512 calls after it has been made"

    private static void lastCalls() {
        for (int filler = 0; filler < 9; filler++) {
            String behind = " as the last call behind many of " + filler;
            Due.same("put" + behind, almostUsedUp(filler, 1).put(BASE, 0, 8), true);
            Due.same("put of 9" + behind, almostUsedUp(filler, 1).put(BASE, 0, 9), false);
            almostUsedUp(filler, 1).clear(BASE);
            Due.same("make" + behind, almostUsedUp(filler, 1).make(), 3);
            Due.same("piece" + behind, almostUsedUp(filler, 1).piece(1, 1), 8);
            Due.same("size" + behind, almostUsedUp(filler, 1).size(), 14);
            Due.same("way" + behind, almostUsedUp(filler, 1).way(13), 'z');
            Due.same("go" + behind, almostUsedUp(filler, 1).go(), "11");
            Due.same("result" + behind, almostUsedUp(filler, 1).result(10), 'z');
            Due.same("count" + behind, almostUsedUp(filler, 1).count(2), 11);
            changeThenAsk(filler);
        }
        Ways x = new Ways();
        while (x.left() > 1) {
            Due.same("a byte a call", x.put(TARGET, x.left(), 1), true);
        }
        Due.same("511 bytes in 511 calls", x.count(1), 511);
        x = Ways.of(MARKED, MARKED);
        while (x.left() > 0) {
            Due.same("make, again and again", x.make(), 1);
        }
    }

    /** What the 511th call changes, the 512th sees. */
    private static void changeThenAsk(int filler) {
        Ways x = almostUsedUp(filler, 2);
        x.put(BASE, 0, 8);
        Due.same("count behind put", x.count(0), 24);
        x = almostUsedUp(filler, 2);
        x.clear(BASE);
        Due.same("count behind clear", x.count(0), 0);
        x = almostUsedUp(filler, 2);
        x.clear(BASE);
        Due.same("go behind clear", x.go(), REFUSED);
        x = almostUsedUp(filler, 3);
        x.clear(TARGET);
        x.make();
        Due.same("size behind make", x.size(), 0);
        x = almostUsedUp(filler, 4);
        x.clear(TARGET);
        x.make();
        x.go();
        Due.same("count behind go", x.count(2), 0);
    }

    private static Ways almostUsedUp(int filler, int left) {
        Ways x = gone(Ways.made("01234567abcdefgh", "xyabcdefghz"));
        while (x.left() > left) {
            fill(x, filler);
        }
        return x;
    }

    /** A call that leaves what almostUsedUp has made as it is. */
    private static void fill(Ways x, int filler) {
        switch (filler) {
            case 0 -> x.size();
            case 1 -> x.piece(1, 1);
            case 2 -> x.way(3);
            case 3 -> x.result(3);
            case 4 -> x.count(0);
            case 5 -> x.put(BASE, -1L, 9);
            case 6 -> x.put(TARGET, -1L, 0);
            case 7 -> x.make();
            default -> x.go();
        }
    }

    // LANGUAGE.md, rule 6: "A call of the face throws exactly what and where the document says"

    private static void onlyGoThrows() {
        for (int state = 0; state < STATES.length; state++) {
            String name = STATES[state][0];
            Due.same("go: " + name, inState(state).go(), STATES[state][1]);
            for (int a : EDGES) {
                Ways x = inState(state);
                for (int b : EDGES) {
                    quiet(name + ": piece(" + a + ", " + b + ")", () -> x.piece(a, b));
                }
                quiet(name + ": way(" + a + ")", () -> x.way(a));
                quiet(name + ": result(" + a + ")", () -> x.result(a));
                quiet(name + ": count(" + a + ")", () -> x.count(a));
                quiet(name + ": size", x::size);
                Due.same("go behind asking: " + name, x.go(), STATES[state][1]);
                putMakeClear(name, x, a);
            }
        }
    }

    private static void putMakeClear(String name, Ways x, int n) {
        for (long v : new long[] {0, -1, Long.MIN_VALUE, Long.MAX_VALUE}) {
            quiet(name + ": put of " + n, () -> x.put(BASE, v, n));
            quiet(name + ": put of " + n, () -> x.put(TARGET, v, n));
        }
        quiet(name + ": make", x::make);
        int target = x.count(1);
        Due.same(name + ": go of what was just made", x.go(), String.valueOf(target));
        x.clear(TARGET);
        quiet(name + ": make without a target", x::make);
        x.clear(BASE);
        Due.same(name + ": go of no pieces", x.go(), "0");
    }

    private static void quiet(String call, Call asked) {
        String thrown = "nothing";
        try {
            asked.answer();
        } catch (RuntimeException e) {
            thrown = e.getClass().getName();
        }
        Due.same(call + " throws", thrown, "nothing");
    }

    // LANGUAGE.md, rule 7: "for any arguments in any state": an object that is used on and on too,
    // though what it answers behind its 512th call is free

    private static void manyMoreCalls() {
        for (int first = 0; first < EDGES.length; first++) {
            PieceWays x = new PieceWays();
            for (int i = 0; i < 3000; i++) {
                int a = EDGES[(first + i) % EDGES.length];
                int b = EDGES[(first + i * i) % EDGES.length];
                long v = i % 3 == 0 ? 0x6162636465666768L : a * 0x100000001L;
                int n = i % 5 == 0 ? b : i % 9;
                int call = (i * 7 + i / 11 + first) % 29;
                quiet("call " + i + " (" + a + ", " + b + ")", () -> one(x, call, a, b, v, n));
            }
        }
    }

    private static Object one(PieceWays x, int call, int a, int b, long v, int n) {
        switch (call) {
            case 0:
                // Rarely, so that both are full most of the time.
                if (a == MAX) {
                    x.clear(b < 0);
                }
                return 0;
            case 1:
                return x.make();
            case 2:
                return x.piece(a, b);
            case 3:
                return x.size();
            case 4:
                return x.way(a);
            case 5:
                return x.result(a);
            case 6:
                return x.count(a);
            case 7:
                return onlyRefused(x);
            default:
                return x.put(call % 2 == 0, v, n);
        }
    }

    private static int onlyRefused(PieceWays x) {
        try {
            return x.go();
        } catch (IllegalStateException e) {
            return -1;
        }
    }

    // Not promised: "Nothing is promised beyond the answers and state changes described above": what
    // is asked, and what is refused, changes nothing

    private static void askingChangesNothing() {
        for (int state = 0; state < STATES.length; state++) {
            for (int change = 0; change < 4; change++) {
                for (int part = 0; part < 8; part++) {
                    Ways asked = inState(state);
                    ask(asked, STATES[state][1].equals(REFUSED));
                    Due.same(STATES[state][0] + ", asked, change " + change + ", part " + part,
                        tell(asked, change, part), tell(inState(state), change, part));
                }
            }
        }
    }

    private static void ask(Ways x, boolean refusing) {
        for (int n : NOT_EIGHT) {
            x.put(BASE, 0x7878787878787878L, n);
            x.put(TARGET, 0x7878787878787878L, n);
            x.piece(n, 0);
            x.piece(0, n);
            x.way(n);
            x.result(n);
            x.count(n);
        }
        for (int i = 0; i < 3; i++) {
            x.piece(i, i);
            x.way(i);
            x.result(i);
            x.count(i);
        }
        x.size();
        if (refusing) {
            Due.same("refused", x.go(), REFUSED);
        }
    }

    /** A part of all that can be seen, since an object has not calls enough for the whole. */
    private static String tell(Ways x, int change, int part) {
        StringBuilder all = new StringBuilder();
        if (change == 1 || change == 3) {
            all.append(x.make()).append(' ');
        }
        if (change == 2 || change == 3) {
            all.append(x.go()).append(' ');
        }
        all.append(x.size());
        for (int what = 0; what < 3; what++) {
            all.append(' ').append(x.count(what));
        }
        if (part < 2) {
            for (int i = part * 67; i < part * 67 + 67; i++) {
                all.append(' ').append(x.piece(i, 0)).append(' ').append(x.piece(i, 1));
                all.append(' ').append(x.piece(i, 2));
            }
        } else {
            int from = (part - 2) / 2 * 202;
            for (int i = from; i < from + 202; i++) {
                all.append(' ').append(part % 2 == 0 ? x.way(i) : x.result(i));
            }
        }
        return all.toString();
    }
}
