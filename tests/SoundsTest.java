/** Promises 15 to 23: leaning, sound, entry, then, still, push, widest, wrong, marriages. */
public final class SoundsTest {

    public static void main(String[] args) {
        leansByKind();
        leansRefused();
        leaningByAunt();
        leaningByAunts();
        sound();
        entry();
        then();
        still();
        push();
        widest();
        wrong();
        marry();
        marryFirstWay();
        nothingIsChanged();
        Check.end();
    }

    private static void leansByKind() {
        Check.under("Promise 15, leans");
        int[][] want = {
            {0, 5, 0, -5, 0, 5, 0, -5, 0, 5, 0, -5, 0},
            {0, 6, 0, -5, 0, 6, 0, -5, 0, 6, 0, -5, 0},
            {0, 2, 0, -2, 0, 2, 0, -2, 0, 2, 0, -2, 0},
            {0, 5, 0, 0, 0, 5, 0, -5, 0, 0, 0, -5, 0},
            {6, 0, -5, 0, 6, 0, -5, 0, 6, 0, -5, 0, 6},
            {0, 6, 0, -6, 0, 6, 0, -6, 0, 6, 0, -6, 0}};
        for (int kind = 0; kind < 6; kind++) {
            LaneCymbals x = new LaneCymbals();
            x.one(kind, kind % 2, 5);
            for (int c = 0; c <= 12; c++) {
                Check.due("kind " + kind + " leans at " + c, x.leans(0, c, 0), want[kind][c]);
                Check.due("leaning without aunts at " + c, x.leans(0, c, 1), want[kind][c]);
            }
            x.swings(0, 0);
            for (int c = 0; c <= 5; c++) {
                Check.due("nobody leans with a swing of 0", x.leans(0, c, 0), 0);
            }
        }
        LaneCymbals x = Check.told("lane 4;one 1 0 1;one 2 0 1;one 5 0 1;one 5 0 9;one 2 0 9;");
        int[] atOne = {2, 0, 0, 12, 4};
        int[] atThree = {-1, 0, 0, -12, -4};
        for (int i = 0; i < 5; i++) {
            Check.due("leans at 97", x.leans(i, 97, 0), atOne[i]);
            Check.due("leans at 99", x.leans(i, 99, 0), atThree[i]);
        }
    }

    private static void leansRefused() {
        Check.under("Promise 15, leans");
        LaneCymbals x = Check.told("lane 4;one 0 0 9;");
        int[][] wrong = {{-1, 0, 0}, {1, 0, 0}, {7, 0, 0}, {0, -1, 0}, {0, 100, 0}, {0, 0, -1}, {0, 0, 2}};
        for (int[] w : wrong) {
            Check.due("leans of wrong numbers", x.leans(w[0], w[1], w[2]), -1000);
        }
        Check.refused("leans", x, 7, 0, 0);
    }

    private static void leaningByAunt() {
        Check.under("Promise 15, leans");
        int[] plainNine = {7, 4, 5, 9, 9, 5};
        int[] plainEight = {6, 6, 4, 8, 8, 4};
        int[] waverAtNought = {8, 5, 6, 8, 8, 0};
        int[] waverAtFour = {8, 5, 6, 8, 10, 0};
        for (int kind = 0; kind < 6; kind++) {
            LaneCymbals x = Check.told("lane 4;one 0 0 9;one 0 0 8;one 4 0 9;one 0 1 9;one 0 0 2;aunt " + kind + " 0;");
            Check.due("PLAIN of 9 by " + kind, x.leans(0, 1, 1), plainNine[kind]);
            Check.due("as it leans", x.leans(0, 1, 0), 9);
            Check.due("PLAIN of 9 at 9 by " + kind, x.leans(0, 9, 1), plainNine[kind]);
            Check.due("PLAIN of 8 by " + kind, x.leans(1, 1, 1), plainEight[kind]);
            Check.due("WAVER at 0 by " + kind, x.leans(2, 0, 1), waverAtNought[kind]);
            Check.due("WAVER at 4 by " + kind, x.leans(2, 4, 1), waverAtFour[kind]);
            Check.due("away from the lane by " + kind, x.leans(0, 3, 1), -9);
            Check.due("the other house by " + kind, x.leans(3, 1, 1), 9);
            Check.due("2 by " + kind, x.leans(4, 1, 1), kind == 3 || kind == 4 ? 2 : 0);
            x.sends(0, 0);
            Check.due("away: not damped", x.leans(0, 1, 1), 9);
        }
    }

    private static void leaningByAunts() {
        Check.under("Promise 15, leans");
        LaneCymbals x = Check.told("lane 4;one 5 0 9;aunt 1 0;aunt 0 1;aunt 0 0;");
        Check.due("12, its half, less 2", x.leans(0, 1, 1), 4);
        x = Check.told("lane 4;one 5 0 9;aunt 0 0;aunt 1 0;");
        Check.due("12, less 2, its half", x.leans(0, 1, 1), 5);
        x.sends(0, 0);
        Check.due("12, its half", x.leans(0, 1, 1), 6);
    }

    private static void sound() {
        Check.under("Promise 16, sound");
        LaneCymbals x = Check.told("lane 10;one 0 0 9;one 0 1 1;one 0 1 5;one 0 0 8;one 1 1 0;");
        Check.due("9 and 1, 9 and 5, 8 and 5", x.sound(1), 1 + 5 + 4);
        Check.due("sound(0)", x.sound(0), 0);
        Check.due("sound(3)", x.sound(3), 0);
        Check.due("sound(97)", x.sound(97), 10);
        Check.due("sound(99)", x.sound(99), 0);
        x.wide(4);
        Check.due("who leans by 0 touches nobody", x.sound(1), 7 + 11 + 6 + 10);
        x = Check.told("lane 12;one 5 0 9;one 0 1 2;one 4 1 9;aunt 0 1;");
        Check.due("12 would be enough alone", x.sound(1), 0);
        x = Check.told("lane 4;one 0 0 9;one 0 0 9;");
        Check.due("one house alone", x.sound(1), 0);
        Check.due("sound(-1)", x.sound(-1), -2);
        Check.due("sound(100)", x.sound(100), -2);
        Check.refused("sound", x, 2, 0, 0);
    }

    private static void entry() {
        Check.under("Promise 17, entry");
        LaneCymbals x = Check.told("lane 18;one 0 0 9;one 0 1 9;");
        Check.due("entry()", x.entry(), 1);
        x.counts(1);
        Check.due("the count that comes", x.entry(), 0);
        x.counts(1);
        Check.due("entry()", x.entry(), 3);
        x.wide(19);
        Check.due("none", x.entry(), -1);
        x = Check.told("lane 20;one 4 0 9;one 4 1 9;aunt 4 0;counts 5;");
        Check.due("only where 5 leaves 4 over: at 24", x.entry(), 19);
        Check.due("nobody", new LaneCymbals().entry(), -1);
        Check.refused("entry", x, 0, 0, 0);
    }

    private static void then() {
        Check.under("Promise 18, then");
        LaneCymbals x = Check.told("lane 10;one 0 0 9;one 0 1 8;counts 2;");
        int[] want = {8, 4, 2, 1, 8, 4};
        for (int m = 0; m < want.length; m++) {
            Check.due("then(" + m + ")", x.then(m), want[m]);
        }
        Check.due("then(60)", x.then(60), 8);
        Check.due("then(-1)", x.then(-1), -2);
        Check.due("then(61)", x.then(61), -2);
        Check.refused("then", x, 2, 0, 0);
    }

    private static void still() {
        Check.under("Promise 19, still");
        LaneCymbals x = Check.told("lane 12;one 0 0 9;one 0 1 9;aunt 0 0;aunt 2 1;");
        Check.due("the first count only", x.still(1), 0);
        Check.due("7 and 5 touch", x.still(2), -1);
        x.wide(13);
        Check.due("both", x.still(60), 3);
        x.wide(15);
        Check.due("the strict one", x.still(2), 2);
        x.sends(0, 0);
        x.sends(1, 0);
        Check.due("who is there now makes no odds", x.still(2), 2);
        x.wide(17);
        Check.due("either: the least", x.still(2), 1);
        x.wide(19);
        Check.due("nobody", x.still(60), 0);
        x = Check.told("lane 13;one 0 0 9;one 0 1 9;aunt 0 0;aunt 0 1;aunt 0 0;aunt 5 1;");
        Check.due("AUNT 0 and GREAT, by 2 aunts, not AUNTS 0 to 2", x.still(9), 9);
        x.counts(2);
        Check.due("the next 3 counts are 2, 3, 4", x.still(3), 0);
        Check.due("the next 4", x.still(4), 9);
        Check.due("still(0)", x.still(0), -2);
        Check.due("still(61)", x.still(61), -2);
        Check.refused("still", x, 2, 0, 0);
    }

    private static void push() {
        Check.under("Promise 20, push");
        LaneCymbals x = Check.told("lane 10;one 0 0 9;one 0 1 9;one 2 1 0;");
        Check.due("push(0, 1)", x.push(0, 1), 1);
        Check.due("it sounds without", x.push(2, 1), 0);
        x.wide(13);
        Check.due("push(0, 1)", x.push(0, 1), 4);
        x.swings(1, 0);
        Check.due("an ELDER of 8", x.push(2, 1), 8);
        x.wide(14);
        Check.due("none", x.push(2, 1), -1);
        Check.due("none", x.push(0, 0), -1);
        Check.due("all else as it is", x.of(2, 2), 0);
        Check.due("push(-1, 0)", x.push(-1, 0), -2);
        Check.due("push(3, 0)", x.push(3, 0), -2);
        Check.due("push(0, -1)", x.push(0, -1), -2);
        Check.due("push(0, 100)", x.push(0, 100), -2);
        Check.refused("push", x, 4, 0, 0);
    }

    private static void widest() {
        Check.under("Promise 21, widest");
        LaneCymbals x = Check.told("lane 30;one 0 0 9;one 0 1 8;one 0 0 5;");
        Check.due("9 and 8", x.widest(), 17);
        x.swings(0, 0);
        Check.due("5 and 8", x.widest(), 13);
        x = Check.told("lane 30;one 5 0 9;one 5 1 9;");
        Check.due("12 and 12", x.widest(), 24);
        x = Check.told("lane 4;one 0 0 1;one 0 1 2;");
        Check.due("3 is no lane", x.widest(), -1);
        x.swings(0, 2);
        Check.due("4 is one", x.widest(), 4);
        x = Check.told("lane 4;one 4 0 9;one 4 1 9;aunt 4 0;aunt 5 1;");
        Check.due("a GREAT one at each 4th count", x.widest(), -1);
        x = Check.told("lane 4;one 4 0 9;one 4 1 9;aunt 4 0;aunt 1 1;counts 5;");
        Check.due("10 and 5 at 24", x.widest(), 15);
        Check.refused("widest", x, 0, 0, 0);
    }

    private static void wrong() {
        Check.under("Promise 22, wrong");
        LaneCymbals x = Check.told("lane 10;one 0 0 9;one 0 1 1;one 0 1 5;");
        Check.due("whoever of house 1 stays away", x.wrong(1), 1);
        x.swings(2, 0);
        Check.due("both", x.wrong(1), 3);
        x.swings(1, 0);
        Check.due("it does not sound", x.wrong(1), 0);
        Check.due("wrong(0)", x.wrong(0), 0);
        x = Check.told("lane 10;one 0 0 9;one 0 1 9;one 0 0 9;one 0 1 9;");
        Check.due("nobody alone", x.wrong(1), 0);
        Check.due("wrong(-1)", x.wrong(-1), -2);
        Check.due("wrong(100)", x.wrong(100), -2);
        Check.refused("wrong", x, 2, 0, 0);
    }

    private static void marriages(LaneCymbals x, int... want) {
        for (int i = 0; i < want.length; i++) {
            Check.due("marry(" + (i - 1) + ")", x.marry(i - 1), want[i]);
        }
    }

    private static void marry() {
        Check.under("Promise 23, marry");
        LaneCymbals x = Check.told("lane 10;one 0 0 9;one 0 1 7;");
        marriages(x, 1, 1, 0);
        x.swings(1, 6);
        marriages(x, 0, -1, -1);
        x = Check.told("lane 10;one 0 0 6;one 4 1 2;one 3 1 7;one 0 1 4;aunt 5 1;");
        marriages(x, 1, 3, -1, -1, 0);
        x = Check.told("lane 10;one 3 0 2;one 0 1 2;");
        marriages(x, 1, 1, 0);
        x = Check.told("lane 10;one 3 0 3;one 0 1 3;");
        marriages(x, 0, -1, -1);
        Check.due("marry(-2)", x.marry(-2), -10);
        Check.due("marry(2)", x.marry(2), -10);
        Check.due("marry(7)", x.marry(7), -10);
        Check.refused("marry", x, 3, 0, 0);
        Check.due("nobody", new LaneCymbals().marry(-1), 0);
    }

    private static void marryFirstWay() {
        Check.under("Promise 23, marry");
        marriages(Check.told("lane 4;one 0 0 5;one 0 0 5;one 0 1 5;"), 1, -1, 2, 1);
        marriages(Check.told("lane 4;one 0 0 5;one 0 1 5;one 0 1 5;"), 1, 1, 0, -1);
        marriages(Check.told("lane 4;one 0 0 5;one 0 0 5;one 0 1 5;one 0 1 5;"), 2, 2, 3, 0, 1);
        marriages(Check.told("lane 4;one 0 0 5;one 0 0 3;one 0 1 5;one 0 1 7;"), 2, 3, 2, 1, 0);
        marriages(Check.told("lane 4;one 0 1 5;one 0 1 9;one 0 0 7;one 0 0 9;one 0 0 3;"), 2, 4, 3, -1, 1, 0);
        marriages(Check.told("lane 4;one 0 0 5;one 0 0 5;one 0 0 5;one 0 0 5;one 0 1 5;one 0 1 5;one 0 1 5;"),
                3, -1, 4, 5, 6, 1, 2, 3);
    }

    private static void nothingIsChanged() {
        Check.under("Promises 15 to 37, nothing is changed");
        LaneCymbals x = Check.told("lane 10;one 0 0 9;one 4 1 9;one 1 1 8;aunt 0 0;aunt 2 1;away 1;counts 3;");
        x.swings(0, 8);
        long before = x.digest();
        x.leans(0, 1, 1);
        x.sound(1);
        x.entry();
        x.then(60);
        x.still(60);
        x.push(0, 1);
        x.widest();
        x.wrong(1);
        x.marry(-1);
        x.lanes();
        x.swung(1);
        x.hear();
        x.game(1, 0, 0, -1);
        x.reigns(7, 60);
        Check.due("digest()", x.digest(), before);
    }
}
