/** Counts and prints the answers that are not as due. */
final class Due {
    private static int wrong = 0;
    private static int looked = 0;

    private Due() {
    }

    static void same(String what, long got, long want) {
        looked++;
        if (got != want) {
            wrong++;
            System.out.println(what + " answered " + got + ", due is " + want);
        }
    }

    static void same(String what, boolean got, boolean want) {
        same(what, got ? 1L : 0L, want ? 1L : 0L);
    }

    static void same(String what, String got, String want) {
        looked++;
        if (!got.equals(want)) {
            wrong++;
            System.out.println(what + " answered " + got + ", due is " + want);
        }
    }

    /** One sentence's test: told by itself, so that one that fails or looks at nothing is seen. */
    static void sentence(String sentence, Runnable test) {
        int wrongBefore = wrong;
        int lookedBefore = looked;
        try {
            test.run();
        } catch (RuntimeException e) {
            wrong++;
            System.out.println("thrown: " + e);
        }
        if (looked == lookedBefore) {
            wrong++;
            System.out.println("nothing was looked at");
        }
        System.out.println((wrong == wrongBefore ? "holds: " : "BROKEN: ") + sentence);
    }

    static void end() {
        System.out.println(looked + " answers looked at, " + wrong + " not as due");
        if (wrong != 0 || looked == 0) {
            System.exit(1);
        }
    }
}
