import java.util.ArrayList;
import java.util.List;
import java.util.Random;

/** Random runs of calls, each answer against a slow model that is written another way. */
public final class ModelTest {
    private static final int RUNS = 3000;
    private static final int CALLS = 512;

    /** The way as the document's words go, over texts whose characters are bytes. */
    private static final class Model {
        String base = "";
        String target = "";
        String row = "";
        String result = "";
        List<int[]> pieces = new ArrayList<>();
        List<String> plains = new ArrayList<>();

        boolean put(boolean toTarget, long v, int n) {
            if (n < 0 || n > 8 || (toTarget ? target : base).length() + n > 600) {
                return false;
            }
            String hex = String.format("%016x", v).substring(16 - 2 * n);
            String bytes = "";
            for (int i = 0; i < n; i++) {
                bytes += (char) Integer.parseInt(hex.substring(2 * i, 2 * i + 2), 16);
            }
            if (toTarget) {
                target += bytes;
            } else {
                base += bytes;
            }
            return true;
        }

        int make() {
            pieces.clear();
            plains.clear();
            row = "";
            String left = target;
            String plain = "";
            while (!left.isEmpty()) {
                int[] copy = copyOf(left);
                if (copy == null) {
                    plain += left.charAt(0);
                    left = left.substring(1);
                } else {
                    endPlain(plain, target.length() - left.length());
                    plain = "";
                    pieces.add(copy);
                    plains.add("");
                    row += "\1" + two(copy[1]) + two(copy[2]);
                    left = left.substring(copy[2]);
                }
            }
            endPlain(plain, target.length());
            return pieces.size();
        }

        private void endPlain(String plain, int end) {
            if (!plain.isEmpty()) {
                pieces.add(new int[] {2, end - plain.length(), plain.length()});
                plains.add(plain);
                row += "\2" + two(plain.length()) + plain;
            }
        }

        private int[] copyOf(String left) {
            for (int n = Math.min(left.length(), base.length()); n >= 8; n--) {
                String wanted = left.substring(0, n);
                for (int at = base.indexOf(wanted); at >= 0; at = base.indexOf(wanted, at + 1)) {
                    if (at % 8 == 0) {
                        return new int[] {1, at, n};
                    }
                }
            }
            return null;
        }

        private static String two(int n) {
            return "" + (char) (n / 256) + (char) (n % 256);
        }

        int go() {
            String made = "";
            for (int i = 0; i < pieces.size(); i++) {
                int[] p = pieces.get(i);
                if (p[0] == 1 && p[1] + p[2] > base.length()) {
                    return -2;
                }
                made += p[0] == 1 ? base.substring(p[1], p[1] + p[2]) : plains.get(i);
            }
            result = made;
            return made.length();
        }

        int piece(int i, int what) {
            boolean there = i >= 0 && i < pieces.size() && what >= 0 && what < 3;
            return there ? pieces.get(i)[what] : -1;
        }

        int count(int what) {
            return what == 0 ? base.length() : what == 1 ? target.length()
                : what == 2 ? result.length() : -1;
        }

        static int at(String bytes, int i) {
            return i >= 0 && i < bytes.length() ? bytes.charAt(i) : -1;
        }
    }

    public static void main(String[] args) {
        Random random = new Random(20261115);
        for (int run = 0; run < RUNS; run++) {
            new ModelTest(random, run).run();
        }
        Due.end();
    }

    private final Random random;
    private final int run;
    private final PieceWays x = new PieceWays();
    private final Model model = new Model();
    /** Few words make blocks that come again, also such that go on being alike. */
    private final long[] words;

    private ModelTest(Random random, int run) {
        this.random = random;
        this.run = run;
        words = new long[1 + random.nextInt(4)];
        for (int i = 0; i < words.length; i++) {
            long mask = random.nextBoolean() ? -1L : 0x0101010101010101L;
            words[i] = random.nextLong() & mask;
        }
    }

    private void run() {
        // Many puts fill both to their limit; few leave more calls to look at what was made.
        int puts = 20 + random.nextInt(70);
        int calls = CALLS;
        while (calls > 0) {
            calls--;
            int kind = random.nextInt(100);
            if (kind < puts) {
                put();
            } else {
                other(random.nextInt(40));
            }
        }
    }

    private void put() {
        boolean target = random.nextBoolean();
        long v = words[random.nextInt(words.length)];
        int n = random.nextInt(5) > 0 ? 8 : random.nextInt(12) - 1;
        if (random.nextInt(30) == 0) {
            n = random.nextInt();
        }
        if (random.nextInt(12) == 0) {
            v = random.nextLong();
        }
        same("put(" + target + ", " + v + ", " + n + ")", x.put(target, v, n) ? 1 : 0,
            model.put(target, v, n) ? 1 : 0);
    }

    private void other(int kind) {
        if (kind == 0) {
            boolean target = random.nextBoolean();
            x.clear(target);
            if (target) {
                model.target = "";
            } else {
                model.base = "";
            }
        } else if (kind < 4) {
            same("make()", x.make(), model.make());
        } else if (kind < 8) {
            int want = model.go();
            same("go()", go(), want);
        } else if (kind < 16) {
            int i = index(model.pieces.size());
            int what = random.nextInt(5) - 1;
            same("piece(" + i + ", " + what + ")", x.piece(i, what), model.piece(i, what));
        } else if (kind < 19) {
            same("size()", x.size(), model.row.length());
        } else if (kind < 28) {
            int i = index(model.row.length());
            same("way(" + i + ")", x.way(i), Model.at(model.row, i));
        } else if (kind < 36) {
            int i = index(model.result.length());
            same("result(" + i + ")", x.result(i), Model.at(model.result, i));
        } else {
            int what = random.nextInt(5) - 1;
            same("count(" + what + ")", x.count(what), model.count(what));
        }
    }

    private int go() {
        try {
            return x.go();
        } catch (IllegalStateException e) {
            return -2;
        }
    }

    private int index(int size) {
        return random.nextInt(20) == 0 ? random.nextInt() : random.nextInt(size + 3) - 1;
    }

    private void same(String call, int got, int want) {
        Due.same("run " + run + ": " + call, got, want);
    }
}
