/** Each promise by itself: ordinary inputs, the edges that the document names, and wrong inputs. */
public final class PromisesTest {
    private static final boolean BASE = Ways.BASE;
    private static final boolean TARGET = Ways.TARGET;
    private static final int NONE = Ways.NONE;
    private static final int[] WRONG = {-1, -2, Integer.MIN_VALUE, Integer.MAX_VALUE};

    public static void main(String[] args) {
        aNewObject();
        putTakesTheLowestBytes();
        putRefusesWrongNumbers();
        putRefusesMoreThan600();
        clearEmptiesOneOfThem();
        clearLeavesWayAndResult();
        makeCopiesAndKeepsPlainTogether();
        makeLooksForWholeBlocksOnly();
        makeGoesOnBeyondTheBlock();
        makeTakesTheLongestAndTheFirst();
        makeIsGreedy();
        makeKeepsTheWay();
        makeTakesTheMostPieces();
        pieceTellsThePlaces();
        sizeCountsTheRow();
        wayTellsTheRow();
        wayHasHighBytes();
        goOnAnotherBase();
        goRefusesAShortBase();
        resultStays();
        resultHasHighBytes();
        countTellsEach();
        objectsAreApart();
        Due.end();
    }

    // Promise 1

    private static void aNewObject() {
        Ways x = new Ways();
        Due.same("new count(0)", x.count(0), 0);
        Due.same("new count(1)", x.count(1), 0);
        Due.same("new count(2)", x.count(2), 0);
        Due.same("new size", x.size(), 0);
        Due.same("new way(0)", x.way(0), NONE);
        Due.same("new piece(0, 0)", x.piece(0, 0), NONE);
        Due.same("new piece(0, 1)", x.piece(0, 1), NONE);
        Due.same("new piece(0, 2)", x.piece(0, 2), NONE);
        Due.same("new result(0)", x.result(0), NONE);
        Due.same("new go", x.go(), "0");
        Due.same("new make", x.make(), 0);
        Due.same("NONE", PieceWays.NONE, -1);
    }

    // Promise 2

    private static void putTakesTheLowestBytes() {
        for (int n = 0; n <= 8; n++) {
            Ways x = new Ways();
            Due.same("put of " + n, x.put(TARGET, 0xF1E2D3C4B5A69788L, n), true);
            Due.same("count after put of " + n, x.count(1), n);
            Due.same("base after put of " + n, x.count(0), 0);
            x.make();
            Due.same("go after put of " + n, x.go(), String.valueOf(n));
            Due.same("bytes of put of " + n, x.resultHex(),
                "f1e2d3c4b5a69788".substring(16 - 2 * n));
        }
        Ways y = new Ways();
        Due.same("put to the base", y.put(BASE, 0x0102L, 2), true);
        Due.same("base after put to it", y.count(0), 2);
        Due.same("target after put to the base", y.count(1), 0);
    }

    private static void putRefusesWrongNumbers() {
        int[] wrong = {-1, 9, 10, 16, 64, 256, 600, 601, Integer.MIN_VALUE, Integer.MAX_VALUE};
        for (int n : wrong) {
            for (boolean target : new boolean[] {BASE, TARGET}) {
                Ways x = new Ways();
                x.put(target, 7, 1);
                Due.same("put of " + n, x.put(target, -1L, n), false);
                Due.same("base after put of " + n, x.count(0), target ? 0 : 1);
                Due.same("target after put of " + n, x.count(1), target ? 1 : 0);
            }
        }
    }

    private static void putRefusesMoreThan600() {
        for (boolean target : new boolean[] {BASE, TARGET}) {
            int what = target ? 1 : 0;
            Ways x = new Ways();
            for (int i = 0; i < 74; i++) {
                Due.same("put below 600", x.put(target, 5, 8), true);
            }
            x.put(target, 5, 7);
            Due.same("count before 600", x.count(what), 599);
            Due.same("put beyond 600 of 2", x.put(target, 5, 2), false);
            Due.same("put beyond 600 of 8", x.put(target, 5, 8), false);
            Due.same("count when refused", x.count(what), 599);
            Due.same("put up to 600", x.put(target, 5, 1), true);
            Due.same("put at 600 of 1", x.put(target, 5, 1), false);
            Due.same("put at 600 of 0", x.put(target, 5, 0), true);
            Due.same("put at 600 of -1", x.put(target, 5, -1), false);
            Due.same("count at 600", x.count(what), 600);
            Due.same("the other one has room", x.put(!target, 5, 8), true);
            x.clear(target);
            Due.same("put after clear", x.put(target, 5, 8), true);
        }
    }

    // Promise 3

    private static void clearEmptiesOneOfThem() {
        Ways x = Ways.of("abcdefgh", "ABC");
        x.clear(BASE);
        Due.same("base after its clear", x.count(0), 0);
        Due.same("target after the base's clear", x.count(1), 3);
        x = Ways.of("abcdefgh", "ABC");
        x.clear(TARGET);
        Due.same("base after the target's clear", x.count(0), 8);
        Due.same("target after its clear", x.count(1), 0);
        x.clear(TARGET);
        Due.same("target after a second clear", x.count(1), 0);
        x.text(TARGET, "xy");
        x.make();
        x.go();
        Due.same("result of what came after clear", x.resultText(), "xy");
        x = Ways.of("abcdefgh", "abcdefgh");
        x.clear(BASE);
        Due.same("no block is left after clear", x.makeAndTell(), "P0+8");
    }

    private static void clearLeavesWayAndResult() {
        Ways x = Ways.of("abcdefgh", "abcdefghZ");
        x.make();
        x.go();
        x.clear(BASE);
        x.clear(TARGET);
        Due.same("size after clear", x.size(), 9);
        Due.same("pieces after clear", x.pieces(), "C0+8 P8+1");
        Due.same("result after clear", x.resultText(), "abcdefghZ");
        Due.same("count(2) after clear", x.count(2), 9);
    }

    // Promise 4

    private static void makeCopiesAndKeepsPlainTogether() {
        Due.same("no target", way("abcdefgh", ""), "");
        Due.same("no base", way("", "abc"), "P0+3");
        Due.same("a block", way("abcdefgh", "abcdefgh"), "C0+8");
        Due.same("plain before", way("abcdefgh", "xyabcdefgh"), "P0+2 C0+8");
        Due.same("plain behind", way("abcdefgh", "abcdefghxyz"), "C0+8 P8+3");
        Due.same("plain between", way("abcdefgh", "abcdefgh-abcdefgh"), "C0+8 P8+1 C0+8");
        Due.same("copies side by side", way("abcdefgh", "abcdefghabcdefgh"), "C0+8 C0+8");
        Due.same("blocks turned round", way("abcdefghABCDEFGH", "ABCDEFGHabcdefgh"), "C8+8 C0+8");
        Ways x = Ways.of("abcdefgh", "xyabcdefghz");
        Due.same("make tells the pieces", x.make(), 3);
        Due.same("make again", x.make(), 3);
    }

    private static void makeLooksForWholeBlocksOnly() {
        Due.same("seven in the base", way("abcdefg", "abcdefg"), "P0+7");
        Due.same("seven alike", way("abcdefgh", "abcdefgX"), "P0+8");
        Due.same("seven in the target", way("abcdefgh", "abcdefg"), "P0+7");
        Due.same("first byte differs", way("abcdefgh", "Xbcdefgh"), "P0+8");
        Due.same("eight that begin in no block", way("0abcdefgh1234567", "abcdefgh"), "P0+8");
        Due.same("what is left at the end", way("01234567abcdefg", "abcdefg"), "P0+7");
        Due.same("the last block", way("01234567abcdefgh", "abcdefgh"), "C8+8");
        Due.same("less than eight behind a copy", way("abcdefgh", "abcdefghabcdefg"), "C0+8 P8+7");
    }

    private static void makeGoesOnBeyondTheBlock() {
        Due.same("into the next block", way("abcdefghijklmnop", "abcdefghijkl"), "C0+12");
        Due.same("into what is left", way("abcdefghijk", "abcdefghijk"), "C0+11");
        Due.same("to the base's end", way("abcdefghijk", "abcdefghijkl"), "C0+11 P11+1");
        Due.same("to the target's end", way("abcdefghijk", "abcdefghi"), "C0+9");
        Due.same("not backwards", way("0123456789abcdef", "789abcdef"), "P0+1 C8+8");
        Due.same("up to a difference", way("abcdefghijkl", "abcdefghiJkl"), "C0+9 P9+3");
    }

    private static void makeTakesTheLongestAndTheFirst() {
        Due.same("the second is longer", way("abcdefgh--------abcdefghXY", "abcdefghXY"), "C16+10");
        Due.same("the first is longer", way("abcdefghXY------abcdefghX-", "abcdefghXY"), "C0+10");
        Due.same("the middle is longest",
            way("abcdefghX-------abcdefghXYZ-----abcdefghXY", "abcdefghXYZ"), "C16+11");
        Due.same("as many: the first", way("12345678abcdefghabcdefgh", "abcdefgh"), "C8+8");
        Due.same("as many, longer ones",
            way("--------abcdefghX-------abcdefghX-", "abcdefghX"), "C8+9");
        Due.same("all alike", way("aaaaaaaaaaaaaaaaaaaaaaaa", "aaaaaaaaaaaa"), "C0+12");
    }

    private static void makeIsGreedy() {
        // A plain byte first would leave one copy of sixteen, but a copy is taken where it can be.
        Due.same("the first copy wins",
            way("xabcdefgabcdefghijklmnop", "xabcdefghijklmnop"), "C0+8 P8+1 C16+8");
        Due.same("the copy takes the next one's beginning",
            way("abcdefgh--------ghijklmn", "abcdefghijklmn"), "C0+8 P8+6");
    }

    private static void makeKeepsTheWay() {
        Ways x = Ways.of("abcdefgh", "xyabcdefgh");
        x.make();
        x.text(TARGET, "more");
        x.text(BASE, "more");
        Due.same("kept when both grow", x.pieces(), "P0+2 C0+8");
        x.clear(TARGET);
        x.text(TARGET, "QRSTUVWXYZ");
        Due.same("kept with another target", x.pieces(), "P0+2 C0+8");
        Due.same("the row is kept", x.row(), "2 0 2 120 121 1 0 0 0 8");
        Due.same("go is kept", x.go(), "10");
        Due.same("result with another target", x.resultText(), "xyabcdefgh");
        Due.same("made anew", x.makeAndTell(), "P0+10");
        x.clear(TARGET);
        Due.same("made of nothing", x.make(), 0);
        Due.same("size of nothing", x.size(), 0);
        Due.same("piece of nothing", x.piece(0, 0), NONE);
    }

    private static void makeTakesTheMostPieces() {
        Ways x = Ways.of("abcdefgh", "-abcdefgh".repeat(66) + "-");
        x.text(TARGET, "-----");
        Due.same("most pieces", x.make(), 133);
        Due.same("longest row", x.size(), 603);
        Due.same("last piece begins", x.piece(132, 1), 594);
        Due.same("last piece's length", x.piece(132, 2), 6);
        Due.same("behind the last piece", x.piece(133, 0), NONE);
        Due.same("last byte of the row", x.way(602), '-');
        Due.same("go", x.go(), "600");
        for (int i = 0; i < 594; i += 7) {
            Due.same("result(" + i + ")", x.result(i), "-abcdefgh".charAt(i % 9));
        }
        Due.same("result(599)", x.result(599), '-');
        Due.same("result(600)", x.result(600), NONE);
        x = Ways.of("", "0123456789".repeat(60));
        Due.same("600 plain", x.make(), 1);
        Due.same("size of 600 plain", x.size(), 603);
        Due.same("length of 600 plain", x.piece(0, 2), 600);
        Due.same("higher byte of the length", x.way(1), 2);
        Due.same("lower byte of the length", x.way(2), 88);
        x = Ways.of("abcdefgh", "abcdefgh".repeat(75));
        Due.same("75 copies", x.make(), 75);
        Due.same("size of 75 copies", x.size(), 375);
        String long600 = "0123456789ABCDE".repeat(40);
        x = Ways.of(long600, long600);
        Due.same("one copy of 600", x.makeAndTell(), "C0+600");
        Due.same("its row", x.row(), "1 0 0 2 88");
    }

    // Promise 5

    private static void pieceTellsThePlaces() {
        Ways x = Ways.of("01234567abcdefgh", "xyabcdefghz");
        x.make();
        Due.same("piece(0, 0)", x.piece(0, 0), 2);
        Due.same("piece(0, 1)", x.piece(0, 1), 0);
        Due.same("piece(0, 2)", x.piece(0, 2), 2);
        Due.same("piece(1, 0)", x.piece(1, 0), 1);
        Due.same("piece(1, 1) in the base", x.piece(1, 1), 8);
        Due.same("piece(1, 2)", x.piece(1, 2), 8);
        Due.same("piece(2, 0)", x.piece(2, 0), 2);
        Due.same("piece(2, 1) in the target", x.piece(2, 1), 10);
        Due.same("piece(2, 2)", x.piece(2, 2), 1);
        for (int what = 0; what < 3; what++) {
            Due.same("piece(3, " + what + ")", x.piece(3, what), NONE);
            for (int i : WRONG) {
                Due.same("piece(" + i + ", " + what + ")", x.piece(i, what), NONE);
            }
        }
        Due.same("piece(0, 3)", x.piece(0, 3), NONE);
        for (int what : WRONG) {
            Due.same("piece(0, " + what + ")", x.piece(0, what), NONE);
        }
        x.clear(TARGET);
        x.text(TARGET, "z");
        x.make();
        Due.same("a piece of an older, longer way", x.piece(1, 0), NONE);
    }

    // Promise 6

    private static void sizeCountsTheRow() {
        Due.same("size of a copy", Ways.made("abcdefgh", "abcdefgh").size(), 5);
        Due.same("size of one plain byte", Ways.made("", "a").size(), 4);
        Due.same("size of ten plain bytes", Ways.made("", "0123456789").size(), 13);
        Due.same("size of three pieces", Ways.made("abcdefgh", "xyabcdefghz").size(), 14);
        Ways x = Ways.of("abcdefgh", "abcdefgh");
        Due.same("size before make", x.size(), 0);
        x.make();
        x.text(TARGET, "more");
        Due.same("size is that of the kept way", x.size(), 5);
    }

    // Promise 7

    private static void wayTellsTheRow() {
        Ways x = Ways.made("01234567abcdefgh", "xyabcdefghz");
        Due.same("row", x.row(), "2 0 2 120 121 1 0 8 0 8 2 0 1 122");
        Due.same("way behind the row", x.way(14), NONE);
        for (int i : WRONG) {
            Due.same("way(" + i + ")", x.way(i), NONE);
        }
        x.clear(TARGET);
        Due.same("the row's bytes are kept", x.way(13), 122);
        x.make();
        Due.same("way(0) of no pieces", x.way(0), NONE);
    }

    private static void wayHasHighBytes() {
        Ways x = new Ways();
        x.put(TARGET, 0xFF80L, 2);
        x.make();
        Due.same("bytes above 127", x.row(), "2 0 2 255 128");
        String filler = "0123456789ABCDEF".repeat(17);
        x = Ways.made(filler + "abcdefgh", "abcdefgh");
        Due.same("a copy from beyond 255", x.row(), "1 1 16 0 8");
        x = Ways.made(filler, filler);
        Due.same("a copy of more than 255", x.row(), "1 0 0 1 16");
        x = Ways.made("", filler);
        Due.same("plain of more than 255", x.way(1) * 1000 + x.way(2), 1016);
        x = Ways.made("0123456789ABCDEF".repeat(36) + "stuvwxyzabcdefgh", "abcdefgh");
        Due.same("a copy from beyond 511", x.row(), "1 2 72 0 8");
    }

    // Promise 8

    private static void goOnAnotherBase() {
        Ways x = Ways.made("01234567abcdefgh", "xyabcdefghz");
        Due.same("go", x.go(), "11");
        Due.same("go is the target", x.resultText(), "xyabcdefghz");
        x.clear(BASE);
        x.text(BASE, "........ABCDEFGH");
        Due.same("go on another base", x.go(), "11");
        Due.same("result of another base", x.resultText(), "xyABCDEFGHz");
        x.clear(TARGET);
        x.text(TARGET, "other");
        Due.same("go with another target", x.go(), "11");
        Due.same("result with another target", x.resultText(), "xyABCDEFGHz");
        Due.same("go leaves the way", x.pieces(), "P0+2 C8+8 P10+1");
        Due.same("go leaves the base", x.count(0), 16);
        Due.same("go leaves the target", x.count(1), 5);
        x.clear(TARGET);
        x.make();
        Due.same("go of no pieces", x.go(), "0");
        Due.same("result of no pieces", x.result(0), NONE);
        Due.same("count(2) of no pieces", x.count(2), 0);
        x = Ways.made("", "abc");
        x.clear(TARGET);
        Due.same("plain bytes need no base", x.go(), "3");
        Due.same("plain bytes", x.resultText(), "abc");
    }

    private static void goRefusesAShortBase() {
        Ways x = Ways.made("01234567abcdefgh01", "xyabcdefgh01z");
        Due.same("go", x.go(), "13");
        x.clear(BASE);
        Due.same("go with no base", x.go(), "IllegalStateException");
        x.text(BASE, "abcdefghijklmnopq");
        Due.same("go with one byte too few", x.go(), "IllegalStateException");
        Due.same("result stays", x.resultText(), "xyabcdefgh01z");
        Due.same("count(2) stays", x.count(2), 13);
        Due.same("the way stays", x.pieces(), "P0+2 C8+10 P12+1");
        x.text(BASE, "r");
        Due.same("go with just enough", x.go(), "13");
        Due.same("result of just enough", x.resultText(), "xyijklmnopqrz");
        x = Ways.made("01234567abcdefgh", "abcdefgh01234567");
        x.clear(BASE);
        x.text(BASE, "ABCDEFGHIJKL");
        Due.same("the first copy is refused", x.go(), "IllegalStateException");
        x = Ways.made("01234567abcdefgh", "01234567-abcdefgh");
        x.clear(BASE);
        x.text(BASE, "ABCDEFGHIJKL");
        Due.same("the last copy is refused", x.go(), "IllegalStateException");
        Due.same("there is still no result", x.result(0), NONE);
        Due.same("no result has no bytes", x.count(2), 0);
    }

    // Promise 9

    private static void resultStays() {
        Ways x = Ways.made("abcdefgh", "abcdefghXY");
        Due.same("no result before go", x.result(0), NONE);
        x.go();
        Due.same("result(0)", x.result(0), 'a');
        Due.same("result(9)", x.result(9), 'Y');
        Due.same("result(10)", x.result(10), NONE);
        for (int i : WRONG) {
            Due.same("result(" + i + ")", x.result(i), NONE);
        }
        x.clear(TARGET);
        x.text(TARGET, "new");
        x.make();
        Due.same("result stays through make", x.resultText(), "abcdefghXY");
        x.go();
        Due.same("a shorter result", x.resultText(), "new");
        Due.same("nothing of the longer one", x.result(3), NONE);
    }

    private static void resultHasHighBytes() {
        Ways x = new Ways();
        x.put(BASE, 0xFFFEFDFC80818283L, 8);
        x.put(TARGET, 0xFFFEFDFC80818283L, 8);
        x.put(TARGET, 0x00FF80L, 3);
        Due.same("pieces of high bytes", x.makeAndTell(), "C0+8 P8+3");
        x.go();
        Due.same("high bytes", x.resultHex(), "fffefdfc8081828300ff80");
    }

    // Promise 10

    private static void countTellsEach() {
        Ways x = Ways.made("abcdefgh", "abc");
        x.go();
        x.text(TARGET, "de");
        Due.same("count(0)", x.count(0), 8);
        Due.same("count(1)", x.count(1), 5);
        Due.same("count(2)", x.count(2), 3);
        Due.same("count(3)", x.count(3), NONE);
        for (int what : WRONG) {
            Due.same("count(" + what + ")", x.count(what), NONE);
        }
    }

    private static void objectsAreApart() {
        Ways x = Ways.made("abcdefgh", "abcdefgh");
        Ways y = Ways.made("", "xyz");
        x.go();
        Due.same("another object's result", y.count(2), 0);
        Due.same("another object's way", y.pieces(), "P0+3");
        Due.same("the first object's way", x.pieces(), "C0+8");
    }

    private static String way(String base, String target) {
        return Ways.of(base, target).makeAndTell();
    }
}
