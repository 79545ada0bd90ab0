/** Counts the answers that are as due, and prints those that aren't. */
final class Check {
    private static int passed = 0;
    private static int failed = 0;

    private Check() {
    }

    static void due(String call, long got, long want) {
        if (got == want) {
            passed++;
            return;
        }
        failed++;
        System.out.println(call + " answered " + got + ", due is " + want);
    }

    static void isTrue(String what, boolean holds) {
        due(what, holds ? 1 : 0, 1);
    }

    /** Feeds a text, in parts of up to eight bytes, and quarries it: the answer. */
    static int quarry(SlowPanes panes, String text) {
        feed(panes, text);
        return panes.quarry();
    }

    static void feed(SlowPanes panes, String text) {
        for (int from = 0; from < text.length(); from += 8) {
            int n = Math.min(8, text.length() - from);
            panes.feed(eight(text.substring(from, from + n)), n);
        }
    }

    static long eight(String bytes) {
        long eight = 0;
        for (int i = bytes.length() - 1; i >= 0; i--) {
            eight = eight << 8 | bytes.charAt(i) & 255;
        }
        return eight;
    }

    /** Prints how it went; whether nothing failed. */
    static boolean told() {
        System.out.println(passed + " passed, " + failed + " failed");
        return failed == 0;
    }
}
