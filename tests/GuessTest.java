/** Promises 24 to 37: what was heard, noted and marked, the girl and the aunt, slips, reigns. */
public final class GuessTest {

    public static void main(String[] args) {
        heard();
        lanes();
        swung();
        hear();
        note();
        mark();
        forget();
        is();
        look();
        kinds();
        ask();
        game();
        slips();
        reigns();
        Check.end();
    }

    private static void heard() {
        Check.under("Promise 24, heard");
        LaneCymbals x = new LaneCymbals();
        int[][] wrong = {{-1, 0}, {100, 0}, {0, -1}, {0, 2}};
        for (int[] w : wrong) {
            Check.due("heard of wrong numbers", x.heard(w[0], w[1]), -2);
        }
        x.counts(1);
        for (int k = 1; k <= 6; k++) {
            Check.due("heard", x.heard(k == 6 ? 99 : 0, k % 2), k);
        }
        Check.due("a 7th", x.heard(0, 0), -4);
        Check.due("a bad 7th", x.heard(100, 0), -2);
        Check.due("count(6)", x.count(6), 6);
        Check.due("count(9)", x.count(9), 1);
        Check.refused("heard", x, 5, 0, 1);
    }

    private static void lanes() {
        Check.under("Promise 25, lanes");
        LaneCymbals x = Check.told("lane 30;one 0 0 9;one 0 1 8;one 4 0 3;one 4 1 2;");
        int all = (1 << 27) - 1;
        int upTo17 = (1 << 14) - 1;
        int upTo7 = (1 << 4) - 1;
        Check.due("none heard", x.lanes(), all);
        x.heard(1, 1);
        Check.due("17 or less", x.lanes(), upTo17);
        x.heard(4, 0);
        Check.due("above 7, too", x.lanes(), upTo17 & ~upTo7);
        x.heard(3, 0);
        Check.due("3 tells nothing", x.lanes(), upTo17 & ~upTo7);
        x.heard(3, 1);
        Check.due("none", x.lanes(), 0);
        x.forget(0);
        x.heard(1, 0);
        Check.due("above 17", x.lanes(), all & ~upTo17);
        Check.due("count(5)", x.count(5), 30);
    }

    private static void swung() {
        Check.under("Promise 26, swung");
        LaneCymbals x = Check.told("lane 12;one 0 0 9;one 0 1 5;one 2 1 4;");
        Check.due("none heard", x.swung(0), 1023);
        x.heard(1, 1);
        Check.due("7 or more", x.swung(0), 0x380);
        Check.due("3 or more", x.swung(1), 0x3F8);
        Check.due("another swings enough", x.swung(2), 1023);
        x.heard(2, 0);
        Check.due("7 or more", x.swung(0), 0x380);
        x.heard(5, 0);
        Check.due("none", x.swung(0), 0);
        x.forget(0);
        x.heard(1, 0);
        Check.due("less than 7", x.swung(0), 0x7F);
        Check.due("of(0, 2)", x.of(0, 2), 9);
        Check.due("swung(-1)", x.swung(-1), -2);
        Check.due("swung(3)", x.swung(3), -2);
        Check.refused("swung", x, 2, 0, 0);
    }

    private static void hear() {
        Check.under("Promise 27, hear");
        LaneCymbals x = Check.told("lane 12;one 0 0 9;one 0 1 8;one 4 0 5;one 4 1 7;");
        Check.due("14 and 13 at 1; 11 and 16 at 0", x.hear(), 1);
        x.heard(1, 1);
        Check.due("of 14, 11 and 3 at 0; all else parts none", x.hear(), 0);
        x.heard(0, 0);
        Check.due("three are left, and nothing parts them", x.hear(), 0);
        x.heard(0, 1);
        Check.due("none is left", x.hear(), -1);
        x = Check.told("lane 12;one 4 0 9;one 4 1 9;aunt 4 0;aunt 4 1;aunt 3 1;");
        Check.due("8 and 6 at 0; 10 and 8 at 4", x.hear(), 4);
        x = Check.told("lane 12;one 0 0 1;one 0 1 1;");
        Check.due("nothing parts any", x.hear(), 0);
        Check.refused("hear", x, 0, 0, 0);
    }

    private static void note() {
        Check.under("Promise 28, note");
        LaneCymbals x = Check.told("lane 4;one 0 0 9;counts 1;");
        x.counts(1);
        int[][] wrong = {{-1, 0, 0, 0}, {1, 0, 0, 0}, {0, -1, 0, 0}, {0, 10, 0, 0}, {0, 0, -1, 0},
            {0, 0, 100, 0}, {0, 0, 0, -21}, {0, 0, 0, 21}};
        for (int[] w : wrong) {
            Check.due("note of wrong numbers", x.note(w[0], w[1], w[2], w[3]), -2);
        }
        for (int k = 1; k <= 6; k++) {
            Check.due("note", x.note(0, 9, 99, k % 2 == 0 ? 20 : -20), k);
        }
        Check.due("a 7th", x.note(0, 0, 0, 0), -4);
        Check.due("a bad 7th", x.note(0, 0, 0, 21), -2);
        Check.due("count(7)", x.count(7), 6);
        Check.due("count(9)", x.count(9), 1);
        Check.refused("note", x, 9, 0, 1);
    }

    private static void mark() {
        Check.under("Promise 29, mark");
        LaneCymbals x = Check.told("lane 4;aunt 0 0;");
        x.counts(1);
        int[][] wrong = {{-1, 0, 0, 0}, {1, 0, 0, 0}, {0, -21, 0, 0}, {0, 21, 0, 0}, {0, 0, -1, 0},
            {0, 0, 100, 0}, {0, 0, 0, -21}, {0, 0, 0, 21}};
        for (int[] w : wrong) {
            Check.due("mark of wrong numbers", x.mark(w[0], w[1], w[2], w[3]), -2);
        }
        for (int k = 1; k <= 6; k++) {
            Check.due("mark", x.mark(0, k % 2 == 0 ? 20 : -20, 99, k % 2 == 0 ? -20 : 20), k);
        }
        Check.due("a 7th", x.mark(0, 0, 0, 0), -4);
        Check.due("a bad 7th", x.mark(0, 0, 0, 21), -2);
        Check.due("count(8)", x.count(8), 6);
        Check.due("count(9)", x.count(9), 1);
        Check.refused("mark", x, 9, 0, 1);
    }

    private static void forget() {
        Check.under("Promise 30, forget");
        LaneCymbals x = Check.told("lane 4;one 0 0 9;aunt 0 0;");
        x.counts(1);
        x.heard(0, 0);
        x.note(0, 0, 0, 0);
        x.note(0, 0, 0, 1);
        x.mark(0, 0, 0, 0);
        x.mark(0, 0, 0, 0);
        x.mark(0, 0, 0, 1);
        Check.due("forget(-1)", x.forget(-1), -2);
        Check.due("forget(3)", x.forget(3), -2);
        Check.due("forget(1)", x.forget(1), 2);
        Check.counted("notes", x, 1, 1, 1, 1, 0, 4, 1, 0, 3, 1, 0);
        Check.due("forget(2)", x.forget(2), 3);
        Check.counted("marks", x, 1, 1, 1, 1, 0, 4, 1, 0, 0, 1, 0);
        Check.due("forget(0)", x.forget(0), 1);
        Check.counted("heard", x, 1, 1, 1, 1, 0, 4, 0, 0, 0, 1, 0);
        Check.due("forget(0)", x.forget(0), 0);
        Check.due("is(0)", x.is(0), 63);
        Check.due("kinds(0)", x.kinds(0), 63);
        Check.refused("forget", x, 2, 0, 0);
    }

    private static LaneCymbals noted(int a, int c, int x) {
        LaneCymbals lane = Check.told("lane 4;one 0 0 9;one 1 1 9;");
        lane.note(1, a, c, x);
        return lane;
    }

    private static void is() {
        Check.under("Promise 31, is");
        Check.due("PLAIN, CHOKE", noted(5, 1, 5).is(1), 9);
        Check.due("GIRL, BRASS", noted(5, 1, 6).is(1), 34);
        Check.due("ELDER", noted(5, 1, 2).is(1), 4);
        Check.due("WAVER", noted(5, 0, 6).is(1), 16);
        Check.due("CHOKE, WAVER", noted(5, 3, 0).is(1), 24);
        Check.due("PLAIN, GIRL", noted(5, 3, -5).is(1), 3);
        Check.due("none", noted(5, 3, 20).is(1), 0);
        LaneCymbals x = noted(5, 1, 6);
        Check.due("not of another", x.is(0), 63);
        x.note(1, 5, 3, -5);
        Check.due("GIRL by both", x.is(1), 2);
        Check.due("is(-1)", x.is(-1), -2);
        Check.due("is(2)", x.is(2), -2);
        Check.refused("is", x, 2, 0, 0);
    }

    private static void look() {
        Check.under("Promise 32, look");
        LaneCymbals x = noted(5, 1, 5);
        Check.due("of all", x.look(0), 12);
        Check.due("PLAIN or CHOKE", x.look(1), 31);
        Check.due("GIRL or BRASS", noted(5, 1, 6).look(1), 11);
        Check.due("CHOKE or WAVER", noted(5, 3, 0).look(1), 1);
        Check.due("one alone", noted(5, 1, 2).look(1), 0);
        Check.due("none", noted(5, 3, 20).look(1), -1);
        x.note(0, 0, 1, 0);
        x.note(0, 5, 4, 0);
        x.note(0, 5, 0, 0);
        Check.due("all but WAVER lean 4, 5, 2, 0, 6 at 9 with 4", x.look(0), 94);
        Check.due("look(-1)", x.look(-1), -2);
        Check.due("look(2)", x.look(2), -2);
        Check.refused("look", x, 2, 0, 0);
    }

    private static LaneCymbals marked(int x, int c, int y) {
        LaneCymbals lane = Check.told("lane 4;aunt 0 0;aunt 1 1;");
        lane.mark(1, x, c, y);
        return lane;
    }

    private static void kinds() {
        Check.under("Promise 33, kinds");
        Check.due("AUNT, FEATHER", marked(5, 1, 3).kinds(1), 3);
        Check.due("SOFT, DEAF", marked(5, 1, 5).kinds(1), 24);
        Check.due("STRICT, GREAT", marked(5, 1, 1).kinds(1), 36);
        Check.due("FEATHER", marked(9, 1, 4).kinds(1), 2);
        Check.due("DEAF", marked(9, 4, 9).kinds(1), 16);
        Check.due("GREAT of one who leans away", marked(-5, 4, 0).kinds(1), 32);
        Check.due("all others of one who leans away", marked(-5, 4, -5).kinds(1), 31);
        Check.due("who leans away", marked(-20, 7, -20).kinds(1), 63);
        Check.due("none", marked(0, 0, 1).kinds(1), 0);
        Check.due("half of 20", marked(20, 99, 10).kinds(1), 2);
        LaneCymbals x = marked(5, 1, 1);
        Check.due("not of another", x.kinds(0), 63);
        x.mark(1, 20, 4, 16);
        Check.due("STRICT by both", x.kinds(1), 4);
        Check.due("kinds(-1)", x.kinds(-1), -2);
        Check.due("kinds(2)", x.kinds(2), -2);
        Check.refused("kinds", x, 2, 0, 0);
    }

    private static void ask() {
        Check.under("Promise 34, ask");
        LaneCymbals x = marked(5, 1, 3);
        Check.due("of all", x.ask(0), 103);
        Check.due("AUNT or FEATHER", x.ask(1), 9);
        Check.due("SOFT or DEAF", marked(5, 1, 5).ask(1), 401);
        Check.due("STRICT or GREAT", marked(5, 1, 1).ask(1), 5);
        Check.due("one alone", marked(9, 1, 4).ask(1), 0);
        Check.due("none", marked(0, 0, 1).ask(1), -1);
        Check.due("ask(-1)", x.ask(-1), -2);
        Check.due("ask(2)", x.ask(2), -2);
        Check.refused("ask", x, 2, 0, 0);
    }

    private static void game() {
        Check.under("Promise 35, game");
        LaneCymbals x = Check.told("lane 10;one 0 0 3;one 0 1 9;aunt 0 1;");
        Check.due("however far he swings: he gets 0", x.game(0, 0, 1, -1), 10);
        for (int k = 0; k < 10; k++) {
            Check.due("the k-th", x.game(0, 0, 1, k), k);
        }
        Check.due("not so many", x.game(0, 0, 1, 10), -5);
        Check.due("not so many", x.game(0, 0, 1, Integer.MAX_VALUE), -5);
        Check.due("nothing sounds", x.game(0, 0, 0, -1), 1);
        Check.due("nothing sounds", x.game(0, 0, 0, 0), 0);
        x = Check.told("lane 10;one 0 0 0;one 0 1 9;one 0 1 9;aunt 2 1;away 0;");
        Check.due("2 i - i, but 2 (i - 4) - i, she has 2 i, but 2 (i - 4) + 2", x.game(0, 0, 1, -1), 1);
        Check.due("she is there, he swings by 9", x.game(0, 0, 1, 0), 19);
        Check.due("as it was", x.about(0, 2), 0);
        Check.due("as it was", x.of(0, 2), 0);
        int[][] wrong = {{-1, 0, 0, 0}, {3, 0, 0, 0}, {0, -1, 0, 0}, {0, 1, 0, 0}, {0, 0, -1, 0},
            {0, 0, 100, 0}, {0, 0, 0, -2}};
        for (int[] w : wrong) {
            Check.due("game of wrong numbers", x.game(w[0], w[1], w[2], w[3]), -10);
        }
        Check.due("not so many is no refusal", x.game(0, 0, 1, 1), -5);
        Check.refused("game", x, 7, 0, 0);
    }

    private static void chance(LaneCymbals x, int o, int above, int below) {
        Check.due("slips(1, " + o + ")", x.slips(1, o), 1);
        Check.due("above", x.part(0), above);
        Check.due("below", x.part(1), below);
    }

    private static void slips() {
        Check.under("Promise 36, slips");
        LaneCymbals x = Check.told("lane 15;one 0 0 9;one 0 1 9;aunt 0 0;aunt 2 1;aunt 5 0;away 2;");
        chance(x, 3, 3, 10);
        chance(x, 0, 0, 1);
        chance(x, 10, 1, 1);
        x.wide(17);
        chance(x, 3, 9, 100);
        chance(x, 5, 1, 4);
        x.wide(13);
        chance(x, 3, 51, 100);
        Check.due("nobody slips back", x.about(2, 2), 0);
        x.sends(0, 0);
        x.wide(4);
        chance(x, 7, 1, 1);
        x.wide(19);
        chance(x, 7, 0, 1);
        x.wide(15);
        x.sends(0, 1);
        x.sends(2, 1);
        chance(x, 1, 1, 100);
        Check.due("slips(-1, 0)", x.slips(-1, 0), -2);
        Check.due("slips(100, 0)", x.slips(100, 0), -2);
        Check.due("slips(0, -1)", x.slips(0, -1), -2);
        Check.due("slips(0, 11)", x.slips(0, 11), -2);
        Check.due("above", x.part(0), 1);
        Check.refused("slips", x, 4, 0, 0);
    }

    /** As told: X by X, with the lane of the object itself, which is put back then. */
    private static int reign(LaneCymbals lane, int seed, int n) {
        long x = seed;
        int together = 0;
        lane.image(0);
        for (int k = 0; k < n; k++) {
            x = (x * 1103515245L + 12345L) % (1L << 31);
            int who = (int) ((x / 65536) % 7);
            if (who < lane.count(0)) {
                lane.swings(who, (int) ((x / 1048576) % 10));
            }
            together += lane.sound(lane.count(3) + k);
        }
        lane.from(0);
        return together;
    }

    private static void reigns() {
        Check.under("Promise 37, reigns");
        int[] seeds = {0, 1, 7, 12345, 999999};
        for (int seed : seeds) {
            LaneCymbals x = Check.told("lane 4;one 0 0 9;one 1 1 9;one 4 0 5;one 4 1 5;one 5 0 3;aunt 0 1;counts 33;");
            Check.due("reigns of no count", x.reigns(seed, 0), 0);
            Check.due("reigns of 60", x.reigns(seed, 60), reign(x, seed, 60));
            Check.due("reigns of 5", x.reigns(seed, 5), reign(x, seed, 5));
        }
        LaneCymbals x = new LaneCymbals();
        Check.due("reigns(-1, 0)", x.reigns(-1, 0), -2);
        Check.due("reigns(1000000, 0)", x.reigns(1000000, 0), -2);
        Check.due("reigns(0, -1)", x.reigns(0, -1), -2);
        Check.due("reigns(0, 61)", x.reigns(0, 61), -2);
        Check.due("nobody", x.reigns(999999, 60), 0);
        Check.refused("reigns", x, 4, 0, 0);
    }
}
