/** What the tests of this project share: due answers, and texts typed byte by byte. */
final class Check {
    private static int passed, failed;
    private static String words = "";

    private Check() {
    }

    /** Names the promise, or the word of "Terms", that the answers from now on stand under. */
    static void under(String promiseOrTerm) {
        words = promiseOrTerm + ": ";
    }

    static void due(String call, long got, long want) {
        same(call, Long.toString(got), Long.toString(want));
    }

    static void same(String what, String got, String want) {
        if (got.equals(want)) {
            passed++;
        } else {
            failed++;
            System.out.println(words + what + " answered " + got + ", due is " + want);
        }
    }

    static void type(LaneCymbals x, String text) {
        x.clear();
        for (int k = 0; k < text.length(); k++) {
            x.type(text.charAt(k));
        }
    }

    /** The houses of the text, or an end with a failure if it can not be read. */
    static LaneCymbals told(String text) {
        LaneCymbals x = new LaneCymbals();
        type(x, text);
        if (x.read() <= 0) {
            due("read of " + text, 0, 1);
        }
        x.clear();
        return x;
    }

    /** All of count(0) to count(10), and STATUS, as one line of numbers. */
    static void counted(String when, LaneCymbals x, int... want) {
        for (int what = 0; what < want.length; what++) {
            due(when + ": count(" + what + ")", x.count(what), want[what]);
        }
    }

    static void refused(String when, LaneCymbals x, int bad, int no, int full) {
        due(when + ": status(0)", x.status(0), bad);
        due(when + ": status(1)", x.status(1), no);
        due(when + ": status(2)", x.status(2), full);
    }

    static void end() {
        System.out.println(passed + " answers as due, " + failed + " not");
        if (failed != 0 || passed == 0) {
            System.exit(1);
        }
    }
}
