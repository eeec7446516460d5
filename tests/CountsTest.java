/** Promises 9 to 14: counts gone by, swings, aunts sent, undone, and what there is of each. */
public final class CountsTest {

    public static void main(String[] args) {
        counts();
        theLastCount();
        swings();
        sends();
        undo();
        undoOfEight();
        of();
        about();
        Check.end();
    }

    private static void counts() {
        Check.under("Promise 9, counts");
        LaneCymbals x = Check.told("lane 10;one 0 0 9;one 0 1 8;");
        Check.due("counts(0)", x.counts(0), -2);
        Check.due("counts(100)", x.counts(100), -2);
        Check.due("counts(-1)", x.counts(-1), -2);
        Check.due("count(3)", x.count(3), 0);
        Check.due("count 0", x.counts(1), 0);
        Check.due("count 1: 1 and 9 + 8 - 10", x.counts(1), 8);
        Check.due("half", x.counts(1), 4);
        Check.due("half of half of half of 4, and 8 on the way", x.counts(4), 4);
        Check.due("count(3)", x.count(3), 7);
        Check.due("cut", x.counts(2), 1);
        Check.due("cut to nothing, and 8", x.counts(1), 8);
        Check.due("count(4)", x.count(4), 8);
        Check.due("counts(99)", x.counts(99), 1);
        Check.due("count(3)", x.count(3), 109);
        Check.due("together one that may be undone", x.count(9), 7);
        Check.refused("counts", x, 3, 0, 0);
    }

    private static void theLastCount() {
        Check.under("Promise 9, counts, at 9999");
        LaneCymbals x = Check.told("lane 4;one 0 0 9;one 0 1 9;counts 98;");
        for (int k = 0; k < 100; k++) {
            x.counts(99);
        }
        Check.due("98 and 9900", x.count(3), 9998);
        int before = x.count(4);
        Check.due("only one goes by", x.counts(99), before / 2);
        Check.due("count(3)", x.count(3), 9999);
        Check.due("9999 comes in no one's lean, 10001 in 2", x.entry(), 2);
        Check.due("noise behind goes on", x.then(3), before / 16 + 15);
        x.wide(5);
        Check.due("none goes by", x.counts(1), before / 2);
        Check.due("count(3)", x.count(3), 9999);
        Check.due("that may be undone, too", x.count(9), 1);
        Check.due("undo()", x.undo(), 9999);
        Check.due("undo()", x.undo(), -3);
    }

    private static void swings() {
        Check.under("Promise 10, swings");
        LaneCymbals x = Check.told("lane 10;one 0 0 9;one 0 1 1;");
        Check.due("swings(-1, 0)", x.swings(-1, 0), -2);
        Check.due("swings(2, 0)", x.swings(2, 0), -2);
        Check.due("swings(0, -1)", x.swings(0, -1), -2);
        Check.due("swings(0, 10)", x.swings(0, 10), -2);
        Check.due("swings(0, 9)", x.swings(0, 9), -3);
        Check.due("count(9)", x.count(9), 0);
        Check.due("swings(0, 0)", x.swings(0, 0), 9);
        Check.due("sound(1)", x.sound(1), 0);
        Check.due("swings(0, 9)", x.swings(0, 9), 0);
        Check.due("sound(1)", x.sound(1), 1);
        Check.due("count(9)", x.count(9), 2);
        Check.due("of(0, 2)", x.of(0, 2), 9);
        Check.due("of(1, 2)", x.of(1, 2), 1);
        Check.refused("swings", x, 4, 1, 0);
    }

    private static void sends() {
        Check.under("Promise 11, sends");
        LaneCymbals x = Check.told("lane 10;one 0 0 9;one 0 1 1;aunt 0 0;aunt 0 1;");
        Check.due("sends(-1, 0)", x.sends(-1, 0), -2);
        Check.due("sends(2, 0)", x.sends(2, 0), -2);
        Check.due("sends(0, -1)", x.sends(0, -1), -2);
        Check.due("sends(0, 2)", x.sends(0, 2), -2);
        Check.due("sends(0, 1)", x.sends(0, 1), -3);
        Check.due("count(9)", x.count(9), 0);
        Check.due("sends(0, 0)", x.sends(0, 0), 1);
        Check.due("sends(0, 0)", x.sends(0, 0), -3);
        Check.due("about(0, 2)", x.about(0, 2), 0);
        Check.due("about(1, 2)", x.about(1, 2), 1);
        Check.due("count(2)", x.count(2), 1);
        Check.due("count(9)", x.count(9), 1);
        Check.due("sends(0, 1)", x.sends(0, 1), 0);
        Check.due("count(2)", x.count(2), 2);
        Check.due("count(9)", x.count(9), 2);
        Check.refused("sends", x, 4, 2, 0);
    }

    private static void undo() {
        Check.under("Promise 12, undo");
        LaneCymbals x = Check.told("lane 10;one 0 0 9;one 0 1 9;aunt 0 0;");
        x.counts(2);
        x.heard(1, 1);
        x.swings(0, 1);
        x.sends(0, 0);
        x.note(0, 1, 1, 1);
        x.counts(9);
        Check.due("count(9)", x.count(9), 4);
        Check.due("undo of counts", x.undo(), 2);
        Check.counted("then", x, 2, 1, 0, 2, 7, 10, 1, 1, 0, 3);
        Check.due("undo of an aunt sent", x.undo(), 2);
        Check.due("about(0, 2)", x.about(0, 2), 1);
        Check.due("of(0, 2)", x.of(0, 2), 1);
        Check.due("undo of a swing", x.undo(), 2);
        Check.due("of(0, 2)", x.of(0, 2), 9);
        Check.due("noise", x.count(4), 7);
        Check.due("undo of counts", x.undo(), 0);
        Check.counted("at first", x, 2, 1, 1, 0, 0, 10, 1, 1, 0, 0);
        Check.due("none may be", x.undo(), -3);
        Check.refused("undo", x, 0, 1, 0);
        x.sends(0, 0);
        x.sends(0, 1);
        Check.due("undo of an aunt called", x.undo(), 0);
        Check.due("about(0, 2)", x.about(0, 2), 0);
        x.undo();
        Check.due("about(0, 2)", x.about(0, 2), 1);
    }

    private static void undoOfEight() {
        Check.under("Promise 12, undo");
        LaneCymbals x = Check.told("lane 10;one 0 0 0;");
        for (int a = 1; a <= 9; a++) {
            x.swings(0, a);
            Check.due("count(9)", x.count(9), Math.min(a, 8));
        }
        for (int a = 8; a >= 1; a--) {
            Check.due("undo()", x.undo(), 0);
            Check.due("of(0, 2)", x.of(0, 2), a);
        }
        Check.due("undo()", x.undo(), -3);
        Check.due("of(0, 2)", x.of(0, 2), 1);
    }

    private static void of() {
        Check.under("Promise 13, of");
        LaneCymbals x = Check.told("lane 10;one 1 0 7;one 5 1 8;");
        int[][] facts = {{1, 0, 7}, {5, 1, 8}};
        for (int i = 0; i < 2; i++) {
            for (int what = 0; what < 3; what++) {
                Check.due("of", x.of(i, what), facts[i][what]);
            }
        }
        Check.due("of(-1, 0)", x.of(-1, 0), -2);
        Check.due("of(2, 0)", x.of(2, 0), -2);
        Check.due("of(7, 0)", x.of(7, 0), -2);
        Check.due("of(0, -1)", x.of(0, -1), -2);
        Check.due("of(0, 3)", x.of(0, 3), -2);
        Check.refused("of", x, 5, 0, 0);
    }

    private static void about() {
        Check.under("Promise 14, about");
        LaneCymbals x = Check.told("lane 10;aunt 4 1;aunt 3 0;away 0;");
        int[][] facts = {{4, 1, 0}, {3, 0, 1}};
        for (int i = 0; i < 2; i++) {
            for (int what = 0; what < 3; what++) {
                Check.due("about", x.about(i, what), facts[i][what]);
            }
        }
        Check.due("about(-1, 0)", x.about(-1, 0), -2);
        Check.due("about(2, 0)", x.about(2, 0), -2);
        Check.due("about(4, 0)", x.about(4, 0), -2);
        Check.due("about(0, -1)", x.about(0, -1), -2);
        Check.due("about(0, 3)", x.about(0, 3), -2);
        Check.refused("about", x, 5, 0, 0);
    }
}
