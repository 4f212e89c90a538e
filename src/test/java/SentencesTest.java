/** Each sentence of the document that names a boundary case, with a test of its own. */
public final class SentencesTest {
    private static final boolean BASE = Ways.BASE;
    private static final boolean TARGET = Ways.TARGET;
    private static final int NONE = Ways.NONE;
    private static final boolean[] BOTH = {BASE, TARGET};
    private static final int MIN = Integer.MIN_VALUE;
    private static final int MAX = Integer.MAX_VALUE;
    private static final String REFUSED = "IllegalStateException";

    private static final String MARKED = Ways.marked();

    public static void main(String[] args) {
        Due.sentence("Terms: BASE and TARGET have at most 600 bytes each.",
            SentencesTest::atMost600);
        Due.sentence("Terms: BLOCKS of the base are its bytes 0 to 7, 8 to 15, and so on, eight"
            + " each (what is left at the end is none).", SentencesTest::blocks);
        Due.sentence("Terms: a COPY of as many bytes as go on being alike from the beginning of"
            + " such a block (also beyond it; of several blocks that with the most, of these the"
            + " first one)", SentencesTest::copies);
        Due.sentence("Terms: PLAIN bytes that stand together are one piece.",
            SentencesTest::plainTogether);
        Due.sentence("Terms: where it begins (two bytes, the higher one first), how many (two"
            + " bytes)", SentencesTest::twoBytes);
        Due.sentence("Promise 1: No bytes; a way of no pieces, and no result.",
            SentencesTest::newObject);
        Due.sentence("Promise 2: true; false, and none come, if n is not 0 .. 8, or there would be"
            + " more than 600.", SentencesTest::putRefuses);
        Due.sentence("Promise 3: The base, or the target, has no bytes.",
            SentencesTest::clearEmpties);
        Due.sentence("Promise 4: THE WAY is found and kept (also when base and target change)",
            SentencesTest::wayIsKept);
        Due.sentence("Promise 5: where it begins, in the base or in the target as it was then",
            SentencesTest::pieceBegins);
        Due.sentence("Promise 5: NONE if there is none such, or for another what.",
            SentencesTest::pieceNone);
        Due.sentence("Promise 6: How many bytes the way has as a row.",
            SentencesTest::sizeOfRow);
        Due.sentence("Promise 7: Byte i (0 .. 255) of that row; NONE if there is none.",
            SentencesTest::wayByte);
        Due.sentence("Promise 8: The way that is kept is gone on the base as it is now",
            SentencesTest::goOnBaseNow);
        Due.sentence("Promise 8: IllegalStateException: it copies what the base has not (the"
            + " result stays as it was).", SentencesTest::goRefuses);
        Due.sentence("Promise 9: Byte i (0 .. 255) of the result; NONE if there is none.",
            SentencesTest::resultByte);
        Due.sentence("Promise 10: NONE for another what.",
            SentencesTest::countNone);
        Due.end();
    }

    // Terms: "BASE and TARGET have at most 600 bytes each."

    private static void atMost600() {
        for (boolean target : BOTH) {
            int what = target ? 1 : 0;
            // One byte a call would need more calls than an object has.
            for (int n = 2; n <= 8; n++) {
                Ways x = new Ways();
                for (int i = 0; i < 600 / n; i++) {
                    Due.same("put of " + n + " up to 600", x.put(target, i, n), true);
                }
                Due.same("count filled by " + n, x.count(what), 600 / n * n);
                Due.same("one more put of " + n, x.put(target, 0, n), false);
                Due.same("what is left", x.put(target, 0, 600 % n), true);
                Due.same("count at 600", x.count(what), 600);
                Due.same("byte 601", x.put(target, 0, 1), false);
                Due.same("count stays at 600", x.count(what), 600);
                Due.same("the other one is empty", x.count(1 - what), 0);
            }
        }
        Ways x = Ways.of(MARKED, MARKED);
        Due.same("600 in the base beside the target's", x.count(0), 600);
        Due.same("600 in the target beside the base's", x.count(1), 600);
        Due.same("600 of each, alike", x.makeAndTell(), "C0+600");
        Due.same("go with 600 of each", x.go(), "600");
        for (int i = 0; i < 600; i += 2) {
            Due.same("result(" + i + ")", x.result(i), MARKED.charAt(i));
        }
        Due.same("result(599)", x.result(599), MARKED.charAt(599));
        Due.same("result(600)", x.result(600), NONE);
    }

    // Terms: "BLOCKS of the base are its bytes 0 to 7, 8 to 15, and so on, eight each (what is left
    // at the end is none)."

    private static void blocks() {
        // Every eight bytes of a base of every length up to three blocks and a rest.
        for (int length = 0; length < 32; length++) {
            for (int at = 0; at + 8 <= length; at++) {
                String base = letters(length);
                String due = at % 8 == 0 ? "C" + at + "+8" : "P0+8";
                Due.same("bytes " + at + " .. of a base of " + length,
                    way(base, base.substring(at, at + 8)), due);
            }
        }
        Due.same("a base of 7", way("abcdefg", "abcdefg"), "P0+7");
        Due.same("a base of 7 and another byte", way("abcdefg", "abcdefgh"), "P0+8");
        Due.same("a rest of 7", way("01234567abcdefg", "abcdefg"), "P0+7");
        Due.same("a rest of 7 and another byte", way("01234567abcdefg", "abcdefgh"), "P0+8");
        Due.same("a rest of 1", way("01234567a", "a"), "P0+1");
        Due.same("a rest of 0", way("01234567abcdefgh", "abcdefgh"), "C8+8");
        Due.same("the last block of 600", way(MARKED, MARKED.substring(592)), "C592+8");
        Due.same("the last block of 599", way(MARKED.substring(0, 599),
            MARKED.substring(584, 592)), "C584+8");
        Due.same("the rest of 599", way(MARKED.substring(0, 599), MARKED.substring(592)), "P0+8");
        Due.same("seven 0 in the base are no block", way(zeros(7), zeros(8)), "P0+8");
        Due.same("no base, a target of 0", way("", zeros(8)), "P0+8");
        Due.same("seven 0 in the target", way(zeros(8), zeros(7)), "P0+7");
        Ways x = Ways.of("abcdefgh", "abcdefgh");
        x.textAnew(BASE, "abcdefg");
        Due.same("a byte from before clear is in no block", x.makeAndTell(), "P0+8");
        x.textAnew(BASE, "ab");
        x.text(BASE, "cdefg");
        x.text(BASE, "h");
        Due.same("a block that came in three puts", x.makeAndTell(), "C0+8");
        x.textAnew(TARGET, "abcdefg");
        Due.same("a byte from before the target's clear", x.makeAndTell(), "P0+7");
    }

    // Terms: "a COPY of as many bytes as go on being alike from the beginning of such a block (also
    // beyond it; of several blocks that with the most, of these the first one)"

    private static void copies() {
        for (int n = 1; n <= 40; n++) {
            String due = n < 8 ? "P0+" + n : "C0+" + n;
            Due.same(n + " alike to the target's end", way(letters(40), letters(n)), due);
            Due.same(n + " alike to the base's end", way(letters(n), letters(n)), due);
            String plain = n < 8 ? "P0+" + (n + 1) : "C0+" + n + " P" + n + "+1";
            Due.same(n + " alike, then the base ends", way(letters(n), letters(n + 1)), plain);
            Due.same(n + " alike, then another byte", way(letters(40), letters(n) + "!"), plain);
        }
        Due.same("the first of the eight is unlike", way("abcdefgh", "!bcdefgh"), "P0+8");
        Due.same("the last of the eight is unlike", way("abcdefgh", "abcdefg!"), "P0+8");
        Due.same("alike before the block too", way("01234567abcdefgh", "7abcdefgh"), "P0+1 C8+8");
        Due.same("599 alike", way(MARKED, MARKED.substring(0, 599)), "C0+599");
        Due.same("600 alike", way(MARKED, MARKED), "C0+600");
        Due.same("as many from each place", way("a".repeat(24), "a".repeat(30)), "C0+24 P24+6");
        severalBlocks();
        Ways x = Ways.of("abcdefghij", "abcdefghij");
        x.textAnew(BASE, "abcdefgh");
        Due.same("not into bytes from before clear", x.makeAndTell(), "C0+8 P8+2");
        x.textAnew(BASE, "abcdefghij");
        x.textAnew(TARGET, "abcdefgh");
        Due.same("not into the target's from before clear", x.makeAndTell(), "C0+8");
        Due.same("0 behind the base's end", way(zeros(8), zeros(9)), "C0+8 P8+1");
        Due.same("-1 is no byte", way("\u00ff".repeat(8), "\u00ff".repeat(9)), "C0+8 P8+1");
        Due.same("a copy, even if it spoils a longer one",
            way("abcdefgh" + "bcdefghijklmnopq", "abcdefghijklmnopq"), "C0+8 P8+1 C16+8");
    }

    private static void severalBlocks() {
        String eight = "abcdefgh--------";
        String nine = "abcdefghX-------";
        String ten = "abcdefghXY------";
        String sought = "abcdefghXY";
        Due.same("eight, nine, ten", way(eight + nine + ten, sought), "C32+10");
        Due.same("ten, nine, eight", way(ten + nine + eight, sought), "C0+10");
        Due.same("nine, ten, eight", way(nine + ten + eight, sought), "C16+10");
        Due.same("ten twice", way(ten + ten, sought), "C0+10");
        Due.same("nine, ten twice", way(nine + ten + ten, sought), "C16+10");
        Due.same("ten, nine, ten", way(ten + nine + ten, sought), "C0+10");
        Due.same("eight twice", way(eight + eight, sought), "C0+8 P8+2");
        Due.same("nine thrice", way(nine + nine + nine, sought), "C0+9 P9+1");
        Due.same("unlike, then eight twice", way("01234567" + eight + eight, "abcdefgh"), "C8+8");
        Due.same("ten, but the target ends at nine", way(nine + ten, "abcdefghX"), "C0+9");
        Due.same("one more in the last block", way(eight + "abcdefghX", sought), "C16+9 P9+1");
        Due.same("blocks side by side", way("abcdefgh" + "abcdefghX", "abcdefghX"), "C8+9");
        Due.same("at the far end of 600",
            way(MARKED.substring(0, 568) + eight + "abcdefghXY------", sought), "C584+10");
    }

    // Terms: "PLAIN bytes that stand together are one piece."

    private static void plainTogether() {
        for (int n : new int[] {1, 2, 7, 8, 9, 255, 256, 599, 600}) {
            Due.same(n + " plain, no base", way("", "x".repeat(n)), "P0+" + n);
            Due.same(n + " plain", way("abcdefgh", "x".repeat(n)), "P0+" + n);
        }
        for (int n : new int[] {1, 7, 8, 9, 592}) {
            Due.same(n + " plain before a copy", way("abcdefgh", "x".repeat(n) + "abcdefgh"),
                "P0+" + n + " C0+8");
            Due.same(n + " plain behind a copy", way("abcdefgh", "abcdefgh" + "x".repeat(n)),
                "C0+8 P8+" + n);
        }
        Due.same("a copy between keeps them apart", way("abcdefgh", "xyabcdefghz"),
            "P0+2 C0+8 P10+1");
        Due.same("those that can begin no eight stand with those before",
            way("abcdefgh", "0123456789abcdefg"), "P0+17");
        Due.same("copies that stand together are two", way("abcdefgh", "abcdefghabcdefgh"),
            "C0+8 C0+8");
        Ways x = new Ways();
        for (int i = 0; i < 10; i++) {
            x.put(TARGET, i, 1);
        }
        Due.same("plain bytes of ten puts", x.makeAndTell(), "P0+10");
        Due.same("not together with those of the way before", x.makeAndTell(), "P0+10");
        x.textAnew(TARGET, "z");
        Due.same("nor with those of another target", x.makeAndTell(), "P0+1");
        x = Ways.of("abcdefgh", "-abcdefgh".repeat(66) + "------");
        Due.same("66 and 67 by turns", x.make(), 133);
        for (int i = 0; i < 133; i++) {
            Due.same("kind of piece " + i, x.piece(i, 0), i % 2 == 0 ? 2 : 1);
            Due.same("length of piece " + i, x.piece(i, 2), i == 132 ? 6 : i % 2 == 0 ? 1 : 8);
        }
    }

    // Terms: "where it begins (two bytes, the higher one first), how many (two bytes)"

    private static void twoBytes() {
        for (int begin : new int[] {0, 8, 120, 128, 248, 256, 264, 504, 512, 520, 592}) {
            for (int n : new int[] {8, 9, 127, 128, 255, 256, 257, 511, 512, 513, 600}) {
                if (begin + n <= 600) {
                    Ways x = Ways.made(MARKED, MARKED.substring(begin, begin + n));
                    Due.same("row of a copy of " + n + " from " + begin, x.row(),
                        "1 " + two(begin) + " " + two(n));
                }
            }
        }
        for (int n : new int[] {1, 127, 128, 255, 256, 257, 511, 512, 513, 599, 600}) {
            Ways x = Ways.made("", "x".repeat(n));
            Due.same("kind of " + n + " plain", x.way(0), 2);
            Due.same("number of " + n + " plain", x.way(1) + " " + x.way(2), two(n));
            Due.same("first of " + n + " plain", x.way(3), 'x');
            Due.same("last of " + n + " plain", x.way(n + 2), 'x');
            Due.same("behind " + n + " plain", x.way(n + 3), NONE);
        }
        Ways x = Ways.made(MARKED, "x".repeat(258) + MARKED.substring(264) + "yz");
        Due.same("a row with both", x.row(), "2 " + two(258) + " 120".repeat(258)
            + " 1 " + two(264) + " " + two(336) + " 2 " + two(2) + " 121 122");
    }

    // Promise 1: "No bytes; a way of no pieces, and no result."

    private static void newObject() {
        nothingIsThere("new", new Ways());
        Ways x = new Ways();
        Due.same("go of a new object", x.go(), "0");
        nothingIsThere("new, gone", x);
        x = new Ways();
        Due.same("make of a new object", x.make(), 0);
        nothingIsThere("new, made", x);
        x = new Ways();
        x.clear(BASE);
        x.clear(TARGET);
        nothingIsThere("new, cleared", x);
        x = Ways.of("abcdefgh", "abcdefghX");
        Due.same("no piece before make", x.piece(0, 0), NONE);
        Due.same("no row before make", x.size(), 0);
        Due.same("no byte of it before make", x.way(0), NONE);
        Due.same("go before make", x.go(), "0");
        Due.same("no result before make", x.result(0), NONE);
        x.make();
        Due.same("no result before go", x.result(0), NONE);
        Due.same("no bytes in it before go", x.count(2), 0);
        x.go();
        nothingIsThere("new beside a used one", new Ways());
    }

    private static void nothingIsThere(String which, Ways x) {
        for (int what = 0; what < 3; what++) {
            Due.same(which + " count(" + what + ")", x.count(what), 0);
            Due.same(which + " piece(0, " + what + ")", x.piece(0, what), NONE);
        }
        Due.same(which + " size()", x.size(), 0);
        for (int i : new int[] {0, 1, 599, 600, 602, -1}) {
            Due.same(which + " way(" + i + ")", x.way(i), NONE);
            Due.same(which + " result(" + i + ")", x.result(i), NONE);
        }
    }

    // Promise 2: "true; false, and none come, if n is not 0 .. 8, or there would be more than 600."

    private static void putRefuses() {
        int[] notEight = {-1, -8, MIN, MIN + 1, MIN + 8, 9, 10, 16, 256, 264, 600, 601, 65536, MAX};
        for (boolean target : BOTH) {
            int what = target ? 1 : 0;
            for (int length : new int[] {0, 1, 592, 599, 600}) {
                Ways x = new Ways();
                x.text(target, MARKED.substring(0, length));
                for (int n : notEight) {
                    Due.same("put of " + n + " at " + length, x.put(target, -1L, n), false);
                    Due.same("count behind put of " + n, x.count(what), length);
                    Due.same("the other one's", x.count(1 - what), 0);
                }
            }
            for (int length = 590; length <= 600; length++) {
                for (int n = 0; n <= 8; n++) {
                    Ways x = new Ways();
                    x.text(target, MARKED.substring(0, length));
                    boolean fits = length + n <= 600;
                    Due.same("put of " + n + " at " + length, x.put(target, -1L, n), fits);
                    Due.same("count", x.count(what), fits ? length + n : length);
                    Due.same("the other one's", x.count(1 - what), 0);
                }
            }
        }
        noneCome();
        for (int n = 0; n <= 8; n++) {
            Ways x = new Ways();
            Due.same("put of " + n, x.put(TARGET, 0x80FF7F00A1B2C3D4L, n), true);
            x.make();
            Due.same("go of " + n, x.go(), String.valueOf(n));
            Due.same("the lowest " + n, x.resultHex(), "80ff7f00a1b2c3d4".substring(16 - 2 * n));
        }
    }

    private static void noneCome() {
        Ways x = Ways.of("abcdefg", "abcdefg");
        for (int n : new int[] {-1, 9, MIN, MAX}) {
            x.put(BASE, 'h', n);
            x.put(TARGET, 'h', n);
        }
        Due.same("nothing came of the refused", x.makeAndTell(), "P0+7");
        x.text(BASE, "hX");
        x.text(TARGET, "hX");
        Due.same("what comes stands next", x.makeAndTell(), "C0+9");
        x = Ways.of("", MARKED.substring(0, 596));
        Due.same("five at 596", x.put(TARGET, 0x0102030405L, 5), false);
        Due.same("four at 596", x.put(TARGET, 0x0A0B0C0DL, 4), true);
        x.make();
        Due.same("go", x.go(), "600");
        for (int i = 0; i < 5; i++) {
            Due.same("result(" + (595 + i) + ")", x.result(595 + i),
                i == 0 ? MARKED.charAt(595) : 9 + i);
        }
    }

    // Promise 3: "The base, or the target, has no bytes."

    private static void clearEmpties() {
        for (boolean target : BOTH) {
            int what = target ? 1 : 0;
            for (int length : new int[] {0, 1, 8, 599, 600}) {
                Ways x = new Ways();
                x.text(target, MARKED.substring(0, length));
                x.text(!target, "abcdefghij");
                x.clear(target);
                Due.same("count behind clear of " + length, x.count(what), 0);
                Due.same("the other one's", x.count(1 - what), 10);
                x.clear(target);
                Due.same("count behind a second clear", x.count(what), 0);
                x.text(target, MARKED);
                Due.same("600 again", x.count(what), 600);
                Due.same("and no more", x.put(target, 0, 1), false);
            }
        }
        Ways x = Ways.of("01234567abcdefgh", "abcdefgh");
        x.clear(BASE);
        Due.same("no block behind the base's clear", x.makeAndTell(), "P0+8");
        x.text(BASE, "abcdefgh");
        Due.same("the next byte is the first one", x.makeAndTell(), "C0+8");
        x.clear(TARGET);
        Due.same("no piece behind the target's clear", x.makeAndTell(), "");
        x.text(TARGET, "-abcdefgh");
        Due.same("the target's next is its first one", x.makeAndTell(), "P0+1 C0+8");
        x.go();
        x.clear(BASE);
        x.clear(TARGET);
        Due.same("the way stays", x.pieces(), "P0+1 C0+8");
        Due.same("the result stays", x.resultText(), "-abcdefgh");
    }

    // Promise 4: "THE WAY is found and kept (also when base and target change)"

    private static void wayIsKept() {
        Ways x = Ways.of("abcdefgh", "xyabcdefghz");
        Due.same("found", x.makeAndTell(), "P0+2 C0+8 P10+1");
        x.text(BASE, "ijklmnop");
        isKept("the base grows", x, "xyabcdefghz");
        x.text(TARGET, "abcdefgh");
        isKept("the target grows", x, "xyabcdefghz");
        x.textAnew(BASE, "ABCDEFGH");
        isKept("another base", x, "xyABCDEFGHz");
        x.textAnew(TARGET, "0123456789");
        isKept("another target", x, "xyABCDEFGHz");
        x.clear(TARGET);
        isKept("no target", x, "xyABCDEFGHz");
        x.clear(BASE);
        Due.same("kept: no base", x.pieces(), "P0+2 C0+8 P10+1");
        Due.same("its row: no base", x.row(), "2 0 2 120 121 1 0 0 0 8 2 0 1 122");
        x.go();
        x.put(TARGET, 0, 9);
        Due.same("kept: refused calls", x.pieces(), "P0+2 C0+8 P10+1");
        Due.same("no target: a way of no pieces", x.make(), 0);
        Due.same("the old one is not kept then", x.pieces(), "");
        Due.same("nor its row", x.size(), 0);
        Due.same("nor gone", x.go(), "0");
        x.text(TARGET, "q");
        Due.same("not found before make", x.pieces(), "");
        Due.same("found anew", x.makeAndTell(), "P0+1");
        Due.same("found again, the same", x.makeAndTell(), "P0+1");
    }

    private static void isKept(String when, Ways x, String result) {
        Due.same("kept: " + when, x.pieces(), "P0+2 C0+8 P10+1");
        Due.same("its size: " + when, x.size(), 14);
        Due.same("its row's end: " + when, x.way(13), 'z');
        Due.same("gone: " + when, x.go(), "11");
        Due.same("result: " + when, x.resultText(), result);
    }

    // Promise 5: "where it begins, in the base or in the target as it was then"

    private static void pieceBegins() {
        Ways x = Ways.made(MARKED, "-" + MARKED.substring(592) + "--" + MARKED.substring(256, 270)
            + "---" + MARKED.substring(0, 8) + MARKED.substring(8, 16) + "----");
        int[] due = {0, 592, 9, 256, 25, 0, 44};
        for (int i = 0; i < due.length; i++) {
            Due.same("where piece " + i + " begins", x.piece(i, 1), due[i]);
        }
        Due.same("behind them", x.piece(due.length, 1), NONE);
        x.textAnew(TARGET, "other");
        x.textAnew(BASE, "another");
        for (int i = 0; i < due.length; i++) {
            Due.same("where piece " + i + " began then", x.piece(i, 1), due[i]);
        }
        Due.same("the last place in the target",
            Ways.made(MARKED, MARKED.substring(1, 8) + MARKED.substring(8) + "-").pieces(),
            "P0+7 C8+592 P599+1");
        x = Ways.made("abcdefgh", "abcdefgh" + "XYZ");
        x.textAnew(TARGET, "01234567890");
        Due.same("plain bytes of the target then", x.go(), "11");
        Due.same("result", x.resultText(), "abcdefghXYZ");
    }

    // Promise 5: "NONE if there is none such, or for another what."

    private static void pieceNone() {
        int[] wrong = {-1, -2, MIN, MAX, 3, 4, 133, 134, 256, 65536};
        Ways x = Ways.made("abcdefgh", "xyabcdefghz");
        for (int other : wrong) {
            for (int right = 0; right < 3; right++) {
                Due.same("piece(" + other + ", " + right + ")", x.piece(other, right), NONE);
                Due.same("piece(" + right + ", " + other + ")", x.piece(right, other), NONE);
            }
            Due.same("piece(" + other + ", " + other + ")", x.piece(other, other), NONE);
        }
        Due.same("the pieces that are there", x.pieces(), "P0+2 C0+8 P10+1");
        x.textAnew(TARGET, "xy");
        x.make();
        for (int what = 0; what < 3; what++) {
            Due.same("piece(0, " + what + ") of one", x.piece(0, what), what == 1 ? 0 : 2);
            Due.same("piece(1, " + what + ") of one", x.piece(1, what), NONE);
            Due.same("piece(2, " + what + ") of one", x.piece(2, what), NONE);
        }
        x = Ways.made("abcdefgh", "-abcdefgh".repeat(66) + "-");
        for (int what = 0; what < 3; what++) {
            Due.same("piece(132, " + what + ") of 133", x.piece(132, what),
                what == 0 ? 2 : what == 1 ? 594 : 1);
            Due.same("piece(133, " + what + ") of 133", x.piece(133, what), NONE);
        }
        x = Ways.made("abcdefgh", "");
        Due.same("piece(0, 0) of none", x.piece(0, 0), NONE);
    }

    // Promise 6: "How many bytes the way has as a row."

    private static void sizeOfRow() {
        Due.same("before make", Ways.of("abcdefgh", "abcdefgh").size(), 0);
        Due.same("no target", Ways.made("abcdefgh", "").size(), 0);
        for (int n : new int[] {1, 7, 8, 255, 256, 599, 600}) {
            Due.same(n + " plain", Ways.made("", "x".repeat(n)).size(), n + 3);
        }
        for (int n : new int[] {8, 9, 255, 256, 599, 600}) {
            Due.same("copy of " + n, Ways.made(MARKED, MARKED.substring(0, n)).size(), 5);
        }
        Due.same("two copies", Ways.made("abcdefgh", "abcdefghabcdefgh").size(), 10);
        Due.same("75 copies", Ways.made("abcdefgh", "abcdefgh".repeat(75)).size(), 375);
        Due.same("133 pieces",
            Ways.made("abcdefgh", "-abcdefgh".repeat(66) + "------").size(), 603);
        Ways x = Ways.made("abcdefgh", "xyabcdefghz");
        Due.same("three pieces", x.size(), 14);
        x.textAnew(TARGET, "x");
        Due.same("of the way that is kept", x.size(), 14);
        x.clear(BASE);
        x.go();
        Due.same("behind a refused go", x.size(), 14);
        x.make();
        Due.same("of a shorter one", x.size(), 4);
    }

    // Promise 7: "Byte i (0 .. 255) of that row; NONE if there is none."

    private static void wayByte() {
        int[] wrong = {-1, -2, MIN, MAX, 603, 604, 65536};
        Ways x = Ways.made("", everyByte());
        for (int i = 0; i < 256; i++) {
            Due.same("plain byte " + i + " in the row", x.way(3 + i), i);
        }
        Due.same("behind 256 plain", x.way(259), NONE);
        x = Ways.made("01234567abcdefgh", "xyabcdefghz");
        Due.same("row", x.row(), "2 0 2 120 121 1 0 8 0 8 2 0 1 122");
        Due.same("its last byte", x.way(13), 122);
        Due.same("behind it", x.way(14), NONE);
        for (int i : wrong) {
            Due.same("way(" + i + ")", x.way(i), NONE);
        }
        x.textAnew(TARGET, "q");
        x.make();
        Due.same("last byte of a shorter row", x.way(3), 'q');
        for (int i = 4; i < 15; i++) {
            Due.same("way(" + i + ") of a shorter row", x.way(i), NONE);
        }
        x.clear(TARGET);
        x.make();
        Due.same("way(0) of no row", x.way(0), NONE);
        x = Ways.made("", "x".repeat(599) + "y");
        Due.same("way(602) of 603", x.way(602), 'y');
        for (int i : wrong) {
            Due.same("way(" + i + ") of 603", x.way(i), NONE);
        }
    }

    // Promise 8: "The way that is kept is gone on the base as it is now"

    private static void goOnBaseNow() {
        Ways x = Ways.made("01234567abcdefghi", "-abcdefghi+01234567");
        Due.same("pieces", x.pieces(), "P0+1 C8+9 P10+1 C0+8");
        goesTo("the same base", x, "-abcdefghi+01234567");
        x.textAnew(BASE, "ABCDEFGHIJKLMNOPQ");
        goesTo("as many other bytes", x, "-IJKLMNOPQ+ABCDEFGH");
        x.text(BASE, "RSTUVWXYZ");
        goesTo("more bytes", x, "-IJKLMNOPQ+ABCDEFGH");
        x.textAnew(BASE, zeros(17));
        goesTo("bytes of 0", x, "-" + zeros(9) + "+" + zeros(8));
        x.textAnew(BASE, MARKED);
        goesTo("a base of 600", x, "-" + MARKED.substring(8, 17) + "+" + MARKED.substring(0, 8));
        x.clear(TARGET);
        goesTo("no target now", x, "-" + MARKED.substring(8, 17) + "+" + MARKED.substring(0, 8));
        x.make();
        goesTo("a way of no pieces", x, "");
        x = Ways.made("", "plain");
        x.clear(TARGET);
        goesTo("only plain, no base", x, "plain");
        x.text(BASE, MARKED);
        goesTo("only plain, a base", x, "plain");
        x = Ways.made(MARKED.substring(0, 300), MARKED.substring(0, 300) + "x".repeat(300));
        Due.same("600 bytes", x.go(), "600");
        Due.same("result(299)", x.result(299), MARKED.charAt(299));
        Due.same("result(300)", x.result(300), 'x');
        Due.same("result(599)", x.result(599), 'x');
        Due.same("result(600)", x.result(600), NONE);
    }

    private static void goesTo(String when, Ways x, String result) {
        Due.same("go: " + when, x.go(), String.valueOf(result.length()));
        Due.same("count(2): " + when, x.count(2), result.length());
        Due.same("result: " + when, x.resultText(), result);
    }

    // Promise 8: "IllegalStateException: it copies what the base has not (the result stays as it
    // was)."

    private static void goRefuses() {
        for (int begin : new int[] {0, 8, 256, 584}) {
            for (int n : new int[] {8, 9, 16, 300, 592, 600}) {
                if (begin + n <= 600) {
                    refusesBelow(begin, n);
                }
            }
        }
        String base = "01234567abcdefgh";
        refusedThenGone("the only copy", Ways.made(base, "abcdefgh"), "IJKLMNOP");
        refusedThenGone("the first copy", Ways.made(base, "abcdefgh01234567"), "IJKLMNOPABCDEFGH");
        refusedThenGone("the last copy", Ways.made(base, "01234567-abcdefgh"), "ABCDEFGH-IJKLMNOP");
        refusedThenGone("the middle copy", Ways.made(base, "01234567!abcdefgh01234567-"),
            "ABCDEFGH!IJKLMNOPABCDEFGH-");
        refusedThenGone("behind plain bytes", Ways.made(base, "plain abcdefgh"), "plain IJKLMNOP");
        Ways x = Ways.made(base, "01234567");
        x.textAnew(BASE, "ABCDEFGH");
        Due.same("what it does not copy may be missing", x.go(), "8");
        x = Ways.made(base, "plain");
        x.clear(BASE);
        Due.same("it copies nothing", x.go(), "5");
        x.clear(TARGET);
        x.make();
        Due.same("no pieces and no base", x.go(), "0");
    }

    private static void refusesBelow(int begin, int n) {
        int end = begin + n;
        Ways x = Ways.made(MARKED.substring(0, end), MARKED.substring(begin, end));
        String copy = "copy of " + n + " from " + begin + ": ";
        Due.same(copy + "all of it", x.go(), String.valueOf(n));
        x.clear(BASE);
        Due.same(copy + "no base", x.go(), REFUSED);
        x.text(BASE, "x".repeat(end - 1));
        Due.same(copy + "one byte too few", x.go(), REFUSED);
        Due.same(copy + "and again", x.go(), REFUSED);
        Due.same(copy + "count(2) stays", x.count(2), n);
        Due.same(copy + "result(0) stays", x.result(0), MARKED.charAt(begin));
        Due.same(copy + "the last one stays", x.result(n - 1), MARKED.charAt(end - 1));
        Due.same(copy + "none behind", x.result(n), NONE);
        Due.same(copy + "the base stays", x.count(0), end - 1);
        Due.same(copy + "the target stays", x.count(1), n);
        Due.same(copy + "the way stays", x.pieces(), "C" + begin + "+" + n);
        x.text(BASE, "y");
        Due.same(copy + "just enough", x.go(), String.valueOf(n));
        Due.same(copy + "the last one now", x.result(n - 1), 'y');
        if (end < 600) {
            x.text(BASE, "z");
            Due.same(copy + "one more", x.go(), String.valueOf(n));
            Due.same(copy + "still the last one", x.result(n - 1), 'y');
        }
    }

    /** The way copies up to byte 15 of a base that is one byte too short, then long enough. */
    private static void refusedThenGone(String which, Ways x, String result) {
        x.textAnew(BASE, "ABCDEFGHIJKLMNO");
        Due.same(which + " is refused", x.go(), REFUSED);
        Due.same(which + ": still no result", x.count(2), 0);
        Due.same(which + ": no byte of it", x.result(0), NONE);
        x.text(BASE, "P");
        goesTo(which, x, result);
        x.textAnew(BASE, "........");
        Due.same(which + " is refused again", x.go(), REFUSED);
        Due.same(which + ": the result stays", x.resultText(), result);
    }

    // Promise 9: "Byte i (0 .. 255) of the result; NONE if there is none."

    private static void resultByte() {
        int[] wrong = {-1, -2, MIN, MAX, 600, 601, 603, 65536};
        for (String base : new String[] {"", everyByte()}) {
            String how = base.isEmpty() ? "plain" : "copied";
            Ways x = Ways.made(base, everyByte());
            Due.same("pieces, " + how, x.pieces(), (base.isEmpty() ? "P" : "C") + "0+256");
            x.go();
            for (int i = 0; i < 256; i++) {
                Due.same("byte " + i + ", " + how, x.result(i), i);
            }
            Due.same("behind 256, " + how, x.result(256), NONE);
            for (int i : wrong) {
                Due.same("result(" + i + "), " + how, x.result(i), NONE);
            }
        }
        Ways x = Ways.made("", "abc");
        Due.same("before go", x.result(0), NONE);
        x.go();
        Due.same("the first", x.result(0), 'a');
        Due.same("the last", x.result(2), 'c');
        Due.same("behind the last", x.result(3), NONE);
        x.textAnew(TARGET, "z");
        x.make();
        Due.same("not the new way's before go", x.result(0), 'a');
        x.go();
        Due.same("a shorter one", x.result(0), 'z');
        Due.same("none of the longer one's", x.result(1), NONE);
        x.clear(TARGET);
        x.make();
        x.go();
        Due.same("none of no bytes", x.result(0), NONE);
        x = Ways.made("", "x".repeat(599) + "y");
        x.go();
        Due.same("the last of 600", x.result(599), 'y');
        for (int i : wrong) {
            Due.same("result(" + i + ") of 600", x.result(i), NONE);
        }
    }

    // Promise 10: "NONE for another what."

    private static void countNone() {
        int[] wrong = {-1, -2, 3, 4, 256, 257, 258, 65536, MIN, MIN + 1, MAX};
        Ways empty = new Ways();
        Ways full = Ways.made(MARKED, MARKED);
        full.go();
        Ways mixed = Ways.made("abcdefgh", "abc");
        mixed.go();
        mixed.text(TARGET, "de");
        for (int what : wrong) {
            Due.same("new count(" + what + ")", empty.count(what), NONE);
            Due.same("full count(" + what + ")", full.count(what), NONE);
            Due.same("mixed count(" + what + ")", mixed.count(what), NONE);
        }
        for (int what = 0; what < 3; what++) {
            Due.same("new count(" + what + ")", empty.count(what), 0);
            Due.same("full count(" + what + ")", full.count(what), 600);
        }
        Due.same("the base's", mixed.count(0), 8);
        Due.same("the target's", mixed.count(1), 5);
        Due.same("the result's", mixed.count(2), 3);
    }

    // What the tests share

    private static String way(String base, String target) {
        return Ways.of(base, target).makeAndTell();
    }

    private static String two(int number) {
        return number / 256 + " " + number % 256;
    }

    /** All different. */
    private static String letters(int n) {
        StringBuilder all = new StringBuilder();
        for (int i = 0; i < n; i++) {
            all.append((char) ('A' + i));
        }
        return all.toString();
    }

    private static String zeros(int n) {
        return "\0".repeat(n);
    }

    private static String everyByte() {
        StringBuilder all = new StringBuilder();
        for (int i = 0; i < 256; i++) {
            all.append((char) i);
        }
        return all.toString();
    }
}
