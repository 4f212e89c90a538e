/** Each promise by itself: ordinary inputs, the edges that the document names, and wrong inputs. */
public final class PromisesTest {
    private static final boolean BASE = false;
    private static final boolean TARGET = true;
    private static final int NONE = PieceWays.NONE;
    private static final int[] WRONG = {-1, -2, Integer.MIN_VALUE, Integer.MAX_VALUE};

    public static void main(String[] args) {
        aNewObject();
        putTakesTheLowestBytes();
        putRefusesWrongNumbers();
        putRefusesMoreThan600();
        clearEmptiesOneOfThem();
        clearLeavesWayAndResult();
        makeCopiesAndKeepsPlainTogether();
        makeLooksForWholeBlocksOnly();
        makeGoesOnBeyondTheBlock();
        makeTakesTheLongestAndTheFirst();
        makeIsGreedy();
        makeKeepsTheWay();
        makeTakesTheMostPieces();
        pieceTellsThePlaces();
        sizeCountsTheRow();
        wayTellsTheRow();
        wayHasHighBytes();
        goOnAnotherBase();
        goRefusesAShortBase();
        resultStays();
        resultHasHighBytes();
        countTellsEach();
        objectsAreApart();
        Due.end();
    }

    // Promise 1

    private static void aNewObject() {
        PieceWays x = new PieceWays();
        Due.same("new count(0)", x.count(0), 0);
        Due.same("new count(1)", x.count(1), 0);
        Due.same("new count(2)", x.count(2), 0);
        Due.same("new size", x.size(), 0);
        Due.same("new way(0)", x.way(0), NONE);
        Due.same("new piece(0, 0)", x.piece(0, 0), NONE);
        Due.same("new piece(0, 1)", x.piece(0, 1), NONE);
        Due.same("new piece(0, 2)", x.piece(0, 2), NONE);
        Due.same("new result(0)", x.result(0), NONE);
        Due.same("new go", go(x), "0");
        Due.same("new make", x.make(), 0);
        Due.same("NONE", PieceWays.NONE, -1);
    }

    // Promise 2

    private static void putTakesTheLowestBytes() {
        for (int n = 0; n <= 8; n++) {
            PieceWays x = new PieceWays();
            Due.same("put of " + n, x.put(TARGET, 0xF1E2D3C4B5A69788L, n), true);
            Due.same("count after put of " + n, x.count(1), n);
            Due.same("base after put of " + n, x.count(0), 0);
            x.make();
            Due.same("go after put of " + n, go(x), String.valueOf(n));
            Due.same("bytes of put of " + n, result(x), "f1e2d3c4b5a69788".substring(16 - 2 * n));
        }
        PieceWays y = new PieceWays();
        Due.same("put to the base", y.put(BASE, 0x0102L, 2), true);
        Due.same("base after put to it", y.count(0), 2);
        Due.same("target after put to the base", y.count(1), 0);
    }

    private static void putRefusesWrongNumbers() {
        int[] wrong = {-1, 9, 10, 16, 64, 256, 600, 601, Integer.MIN_VALUE, Integer.MAX_VALUE};
        for (int n : wrong) {
            for (boolean target : new boolean[] {BASE, TARGET}) {
                PieceWays x = new PieceWays();
                x.put(target, 7, 1);
                Due.same("put of " + n, x.put(target, -1L, n), false);
                Due.same("base after put of " + n, x.count(0), target ? 0 : 1);
                Due.same("target after put of " + n, x.count(1), target ? 1 : 0);
            }
        }
    }

    private static void putRefusesMoreThan600() {
        for (boolean target : new boolean[] {BASE, TARGET}) {
            int what = target ? 1 : 0;
            PieceWays x = new PieceWays();
            for (int i = 0; i < 74; i++) {
                Due.same("put below 600", x.put(target, 5, 8), true);
            }
            x.put(target, 5, 7);
            Due.same("count before 600", x.count(what), 599);
            Due.same("put beyond 600 of 2", x.put(target, 5, 2), false);
            Due.same("put beyond 600 of 8", x.put(target, 5, 8), false);
            Due.same("count when refused", x.count(what), 599);
            Due.same("put up to 600", x.put(target, 5, 1), true);
            Due.same("put at 600 of 1", x.put(target, 5, 1), false);
            Due.same("put at 600 of 0", x.put(target, 5, 0), true);
            Due.same("put at 600 of -1", x.put(target, 5, -1), false);
            Due.same("count at 600", x.count(what), 600);
            Due.same("the other one has room", x.put(!target, 5, 8), true);
            x.clear(target);
            Due.same("put after clear", x.put(target, 5, 8), true);
        }
    }

    // Promise 3

    private static void clearEmptiesOneOfThem() {
        PieceWays x = ways("abcdefgh", "ABC");
        x.clear(BASE);
        Due.same("base after its clear", x.count(0), 0);
        Due.same("target after the base's clear", x.count(1), 3);
        x = ways("abcdefgh", "ABC");
        x.clear(TARGET);
        Due.same("base after the target's clear", x.count(0), 8);
        Due.same("target after its clear", x.count(1), 0);
        x.clear(TARGET);
        Due.same("target after a second clear", x.count(1), 0);
        text(x, TARGET, "xy");
        x.make();
        x.go();
        Due.same("result of what came after clear", text(x), "xy");
        x = ways("abcdefgh", "abcdefgh");
        x.clear(BASE);
        Due.same("no block is left after clear", way(x), "P0+8");
    }

    private static void clearLeavesWayAndResult() {
        PieceWays x = ways("abcdefgh", "abcdefghZ");
        x.make();
        x.go();
        x.clear(BASE);
        x.clear(TARGET);
        Due.same("size after clear", x.size(), 9);
        Due.same("pieces after clear", pieces(x), "C0+8 P8+1");
        Due.same("result after clear", text(x), "abcdefghZ");
        Due.same("count(2) after clear", x.count(2), 9);
    }

    // Promise 4

    private static void makeCopiesAndKeepsPlainTogether() {
        Due.same("no target", way("abcdefgh", ""), "");
        Due.same("no base", way("", "abc"), "P0+3");
        Due.same("a block", way("abcdefgh", "abcdefgh"), "C0+8");
        Due.same("plain before", way("abcdefgh", "xyabcdefgh"), "P0+2 C0+8");
        Due.same("plain behind", way("abcdefgh", "abcdefghxyz"), "C0+8 P8+3");
        Due.same("plain between", way("abcdefgh", "abcdefgh-abcdefgh"), "C0+8 P8+1 C0+8");
        Due.same("copies side by side", way("abcdefgh", "abcdefghabcdefgh"), "C0+8 C0+8");
        Due.same("blocks turned round", way("abcdefghABCDEFGH", "ABCDEFGHabcdefgh"), "C8+8 C0+8");
        PieceWays x = ways("abcdefgh", "xyabcdefghz");
        Due.same("make tells the pieces", x.make(), 3);
        Due.same("make again", x.make(), 3);
    }

    private static void makeLooksForWholeBlocksOnly() {
        Due.same("seven in the base", way("abcdefg", "abcdefg"), "P0+7");
        Due.same("seven alike", way("abcdefgh", "abcdefgX"), "P0+8");
        Due.same("seven in the target", way("abcdefgh", "abcdefg"), "P0+7");
        Due.same("first byte differs", way("abcdefgh", "Xbcdefgh"), "P0+8");
        Due.same("eight that begin in no block", way("0abcdefgh1234567", "abcdefgh"), "P0+8");
        Due.same("what is left at the end", way("01234567abcdefg", "abcdefg"), "P0+7");
        Due.same("the last block", way("01234567abcdefgh", "abcdefgh"), "C8+8");
        Due.same("less than eight behind a copy", way("abcdefgh", "abcdefghabcdefg"), "C0+8 P8+7");
    }

    private static void makeGoesOnBeyondTheBlock() {
        Due.same("into the next block", way("abcdefghijklmnop", "abcdefghijkl"), "C0+12");
        Due.same("into what is left", way("abcdefghijk", "abcdefghijk"), "C0+11");
        Due.same("to the base's end", way("abcdefghijk", "abcdefghijkl"), "C0+11 P11+1");
        Due.same("to the target's end", way("abcdefghijk", "abcdefghi"), "C0+9");
        Due.same("not backwards", way("0123456789abcdef", "789abcdef"), "P0+1 C8+8");
        Due.same("up to a difference", way("abcdefghijkl", "abcdefghiJkl"), "C0+9 P9+3");
    }

    private static void makeTakesTheLongestAndTheFirst() {
        Due.same("the second is longer", way("abcdefgh--------abcdefghXY", "abcdefghXY"), "C16+10");
        Due.same("the first is longer", way("abcdefghXY------abcdefghX-", "abcdefghXY"), "C0+10");
        Due.same("the middle is longest",
            way("abcdefghX-------abcdefghXYZ-----abcdefghXY", "abcdefghXYZ"), "C16+11");
        Due.same("as many: the first", way("12345678abcdefghabcdefgh", "abcdefgh"), "C8+8");
        Due.same("as many, longer ones", way("--------abcdefghX-------abcdefghX-", "abcdefghX"), "C8+9");
        Due.same("all alike", way("aaaaaaaaaaaaaaaaaaaaaaaa", "aaaaaaaaaaaa"), "C0+12");
    }

    private static void makeIsGreedy() {
        // A plain byte first would leave one copy of sixteen, but a copy is taken where it can be.
        Due.same("the first copy wins",
            way("xabcdefgabcdefghijklmnop", "xabcdefghijklmnop"), "C0+8 P8+1 C16+8");
        Due.same("the copy takes the next one's beginning",
            way("abcdefgh--------ghijklmn", "abcdefghijklmn"), "C0+8 P8+6");
    }

    private static void makeKeepsTheWay() {
        PieceWays x = ways("abcdefgh", "xyabcdefgh");
        x.make();
        text(x, TARGET, "more");
        text(x, BASE, "more");
        Due.same("kept when both grow", pieces(x), "P0+2 C0+8");
        x.clear(TARGET);
        text(x, TARGET, "QRSTUVWXYZ");
        Due.same("kept with another target", pieces(x), "P0+2 C0+8");
        Due.same("the row is kept", row(x), "2 0 2 120 121 1 0 0 0 8");
        Due.same("go is kept", go(x), "10");
        Due.same("result with another target", text(x), "xyabcdefgh");
        Due.same("made anew", way(x), "P0+10");
        x.clear(TARGET);
        Due.same("made of nothing", x.make(), 0);
        Due.same("size of nothing", x.size(), 0);
        Due.same("piece of nothing", x.piece(0, 0), NONE);
    }

    private static void makeTakesTheMostPieces() {
        PieceWays x = ways("abcdefgh", "-abcdefgh".repeat(66) + "-");
        text(x, TARGET, "-----");
        Due.same("most pieces", x.make(), 133);
        Due.same("longest row", x.size(), 603);
        Due.same("last piece begins", x.piece(132, 1), 594);
        Due.same("last piece's length", x.piece(132, 2), 6);
        Due.same("behind the last piece", x.piece(133, 0), NONE);
        Due.same("last byte of the row", x.way(602), '-');
        Due.same("go", go(x), "600");
        for (int i = 0; i < 594; i += 7) {
            Due.same("result(" + i + ")", x.result(i), "-abcdefgh".charAt(i % 9));
        }
        Due.same("result(599)", x.result(599), '-');
        Due.same("result(600)", x.result(600), NONE);
        x = ways("", "0123456789".repeat(60));
        Due.same("600 plain", x.make(), 1);
        Due.same("size of 600 plain", x.size(), 603);
        Due.same("length of 600 plain", x.piece(0, 2), 600);
        Due.same("higher byte of the length", x.way(1), 2);
        Due.same("lower byte of the length", x.way(2), 88);
        x = ways("abcdefgh", "abcdefgh".repeat(75));
        Due.same("75 copies", x.make(), 75);
        Due.same("size of 75 copies", x.size(), 375);
        String long600 = "0123456789ABCDE".repeat(40);
        x = ways(long600, long600);
        Due.same("one copy of 600", way(x), "C0+600");
        Due.same("its row", row(x), "1 0 0 2 88");
    }

    // Promise 5

    private static void pieceTellsThePlaces() {
        PieceWays x = ways("01234567abcdefgh", "xyabcdefghz");
        x.make();
        Due.same("piece(0, 0)", x.piece(0, 0), 2);
        Due.same("piece(0, 1)", x.piece(0, 1), 0);
        Due.same("piece(0, 2)", x.piece(0, 2), 2);
        Due.same("piece(1, 0)", x.piece(1, 0), 1);
        Due.same("piece(1, 1) in the base", x.piece(1, 1), 8);
        Due.same("piece(1, 2)", x.piece(1, 2), 8);
        Due.same("piece(2, 0)", x.piece(2, 0), 2);
        Due.same("piece(2, 1) in the target", x.piece(2, 1), 10);
        Due.same("piece(2, 2)", x.piece(2, 2), 1);
        for (int what = 0; what < 3; what++) {
            Due.same("piece(3, " + what + ")", x.piece(3, what), NONE);
            for (int i : WRONG) {
                Due.same("piece(" + i + ", " + what + ")", x.piece(i, what), NONE);
            }
        }
        Due.same("piece(0, 3)", x.piece(0, 3), NONE);
        for (int what : WRONG) {
            Due.same("piece(0, " + what + ")", x.piece(0, what), NONE);
        }
        x.clear(TARGET);
        text(x, TARGET, "z");
        x.make();
        Due.same("a piece of an older, longer way", x.piece(1, 0), NONE);
    }

    // Promise 6

    private static void sizeCountsTheRow() {
        Due.same("size of a copy", made("abcdefgh", "abcdefgh").size(), 5);
        Due.same("size of one plain byte", made("", "a").size(), 4);
        Due.same("size of ten plain bytes", made("", "0123456789").size(), 13);
        Due.same("size of three pieces", made("abcdefgh", "xyabcdefghz").size(), 14);
        PieceWays x = ways("abcdefgh", "abcdefgh");
        Due.same("size before make", x.size(), 0);
        x.make();
        text(x, TARGET, "more");
        Due.same("size is that of the kept way", x.size(), 5);
    }

    // Promise 7

    private static void wayTellsTheRow() {
        PieceWays x = made("01234567abcdefgh", "xyabcdefghz");
        Due.same("row", row(x), "2 0 2 120 121 1 0 8 0 8 2 0 1 122");
        Due.same("way behind the row", x.way(14), NONE);
        for (int i : WRONG) {
            Due.same("way(" + i + ")", x.way(i), NONE);
        }
        x.clear(TARGET);
        Due.same("the row's bytes are kept", x.way(13), 122);
        x.make();
        Due.same("way(0) of no pieces", x.way(0), NONE);
    }

    private static void wayHasHighBytes() {
        PieceWays x = new PieceWays();
        x.put(TARGET, 0xFF80L, 2);
        x.make();
        Due.same("bytes above 127", row(x), "2 0 2 255 128");
        String filler = "0123456789ABCDEF".repeat(17);
        x = made(filler + "abcdefgh", "abcdefgh");
        Due.same("a copy from beyond 255", row(x), "1 1 16 0 8");
        x = made(filler, filler);
        Due.same("a copy of more than 255", row(x), "1 0 0 1 16");
        x = made("", filler);
        Due.same("plain of more than 255", x.way(1) * 1000 + x.way(2), 1016);
        x = made("0123456789ABCDEF".repeat(36) + "stuvwxyzabcdefgh", "abcdefgh");
        Due.same("a copy from beyond 511", row(x), "1 2 72 0 8");
    }

    // Promise 8

    private static void goOnAnotherBase() {
        PieceWays x = made("01234567abcdefgh", "xyabcdefghz");
        Due.same("go", go(x), "11");
        Due.same("go is the target", text(x), "xyabcdefghz");
        x.clear(BASE);
        text(x, BASE, "........ABCDEFGH");
        Due.same("go on another base", go(x), "11");
        Due.same("result of another base", text(x), "xyABCDEFGHz");
        x.clear(TARGET);
        text(x, TARGET, "other");
        Due.same("go with another target", go(x), "11");
        Due.same("result with another target", text(x), "xyABCDEFGHz");
        Due.same("go leaves the way", pieces(x), "P0+2 C8+8 P10+1");
        Due.same("go leaves the base", x.count(0), 16);
        Due.same("go leaves the target", x.count(1), 5);
        x.clear(TARGET);
        x.make();
        Due.same("go of no pieces", go(x), "0");
        Due.same("result of no pieces", x.result(0), NONE);
        Due.same("count(2) of no pieces", x.count(2), 0);
        x = made("", "abc");
        x.clear(TARGET);
        Due.same("plain bytes need no base", go(x), "3");
        Due.same("plain bytes", text(x), "abc");
    }

    private static void goRefusesAShortBase() {
        PieceWays x = made("01234567abcdefgh01", "xyabcdefgh01z");
        Due.same("go", go(x), "13");
        x.clear(BASE);
        Due.same("go with no base", go(x), "IllegalStateException");
        text(x, BASE, "abcdefghijklmnopq");
        Due.same("go with one byte too few", go(x), "IllegalStateException");
        Due.same("result stays", text(x), "xyabcdefgh01z");
        Due.same("count(2) stays", x.count(2), 13);
        Due.same("the way stays", pieces(x), "P0+2 C8+10 P12+1");
        text(x, BASE, "r");
        Due.same("go with just enough", go(x), "13");
        Due.same("result of just enough", text(x), "xyijklmnopqrz");
        x = made("01234567abcdefgh", "abcdefgh01234567");
        x.clear(BASE);
        text(x, BASE, "ABCDEFGHIJKL");
        Due.same("the first copy is refused", go(x), "IllegalStateException");
        x = made("01234567abcdefgh", "01234567-abcdefgh");
        x.clear(BASE);
        text(x, BASE, "ABCDEFGHIJKL");
        Due.same("the last copy is refused", go(x), "IllegalStateException");
        Due.same("there is still no result", x.result(0), NONE);
        Due.same("no result has no bytes", x.count(2), 0);
    }

    // Promise 9

    private static void resultStays() {
        PieceWays x = made("abcdefgh", "abcdefghXY");
        Due.same("no result before go", x.result(0), NONE);
        x.go();
        Due.same("result(0)", x.result(0), 'a');
        Due.same("result(9)", x.result(9), 'Y');
        Due.same("result(10)", x.result(10), NONE);
        for (int i : WRONG) {
            Due.same("result(" + i + ")", x.result(i), NONE);
        }
        x.clear(TARGET);
        text(x, TARGET, "new");
        x.make();
        Due.same("result stays through make", text(x), "abcdefghXY");
        x.go();
        Due.same("a shorter result", text(x), "new");
        Due.same("nothing of the longer one", x.result(3), NONE);
    }

    private static void resultHasHighBytes() {
        PieceWays x = new PieceWays();
        x.put(BASE, 0xFFFEFDFC80818283L, 8);
        x.put(TARGET, 0xFFFEFDFC80818283L, 8);
        x.put(TARGET, 0x00FF80L, 3);
        Due.same("pieces of high bytes", way(x), "C0+8 P8+3");
        x.go();
        Due.same("high bytes", result(x), "fffefdfc8081828300ff80");
    }

    // Promise 10

    private static void countTellsEach() {
        PieceWays x = made("abcdefgh", "abc");
        x.go();
        text(x, TARGET, "de");
        Due.same("count(0)", x.count(0), 8);
        Due.same("count(1)", x.count(1), 5);
        Due.same("count(2)", x.count(2), 3);
        Due.same("count(3)", x.count(3), NONE);
        for (int what : WRONG) {
            Due.same("count(" + what + ")", x.count(what), NONE);
        }
    }

    private static void objectsAreApart() {
        PieceWays x = made("abcdefgh", "abcdefgh");
        PieceWays y = made("", "xyz");
        x.go();
        Due.same("another object's result", y.count(2), 0);
        Due.same("another object's way", pieces(y), "P0+3");
        Due.same("the first object's way", pieces(x), "C0+8");
    }

    // What the tests share

    private static PieceWays ways(String base, String target) {
        PieceWays x = new PieceWays();
        text(x, BASE, base);
        text(x, TARGET, target);
        return x;
    }

    private static PieceWays made(String base, String target) {
        PieceWays x = ways(base, target);
        x.make();
        return x;
    }

    /** Eight characters a call, since nothing is promised of an object after its 512th call. */
    private static void text(PieceWays x, boolean target, String text) {
        for (int from = 0; from < text.length(); from += 8) {
            int n = Math.min(8, text.length() - from);
            long v = 0;
            for (int i = 0; i < n; i++) {
                v = v << 8 | text.charAt(from + i);
            }
            Due.same("put of a text", x.put(target, v, n), true);
        }
    }

    private static String way(String base, String target) {
        return way(ways(base, target));
    }

    private static String way(PieceWays x) {
        int made = x.make();
        String pieces = pieces(x);
        Due.same("make for " + pieces, made, pieces.isEmpty() ? 0 : pieces.split(" ").length);
        return pieces;
    }

    private static String pieces(PieceWays x) {
        StringBuilder all = new StringBuilder();
        for (int i = 0; x.piece(i, 0) != NONE; i++) {
            all.append(i == 0 ? "" : " ");
            all.append(x.piece(i, 0) == 1 ? "C" : x.piece(i, 0) == 2 ? "P" : "?");
            all.append(x.piece(i, 1)).append("+").append(x.piece(i, 2));
        }
        return all.toString();
    }

    private static String row(PieceWays x) {
        StringBuilder all = new StringBuilder();
        int size = x.size();
        for (int i = 0; i < size; i++) {
            all.append(i == 0 ? "" : " ").append(x.way(i));
        }
        Due.same("way behind its size", x.way(size), NONE);
        return all.toString();
    }

    private static String go(PieceWays x) {
        try {
            return String.valueOf(x.go());
        } catch (IllegalStateException e) {
            return "IllegalStateException";
        }
    }

    private static String text(PieceWays x) {
        StringBuilder all = new StringBuilder();
        int n = x.count(2);
        for (int i = 0; i < n; i++) {
            all.append((char) x.result(i));
        }
        return all.toString();
    }

    private static String result(PieceWays x) {
        StringBuilder all = new StringBuilder();
        int n = x.count(2);
        for (int i = 0; i < n; i++) {
            all.append(String.format("%02x", x.result(i)));
        }
        return all.toString();
    }
}
