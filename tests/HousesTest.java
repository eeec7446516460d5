/** Promises 1 to 8: a new object, the lane, people, aunts, the text and what is read from it. */
public final class HousesTest {

    public static void main(String[] args) {
        newObject();
        lane();
        wide();
        one();
        aunt();
        typeAndClear();
        readWhatIsTold();
        readKeepsAllAtAFault();
        readTakesThePlaceOfAll();
        Check.end();
    }

    private static void newObject() {
        Check.under("Promise 1, a new object");
        LaneCymbals x = new LaneCymbals();
        Check.counted("new", x, 0, 0, 0, 0, 0, 12, 0, 0, 0, 0, 0);
        Check.refused("new", x, 0, 0, 0);
        Check.due("part(0)", x.part(0), 0);
        Check.due("part(1)", x.part(1), 1);
        Check.due("from(0)", x.from(0), -3);
        Check.due("from(1)", x.from(1), -3);
        Check.due("undo()", x.undo(), -3);
        Check.due("read()", x.read(), -10);
    }

    private static void lane() {
        Check.under("Promise 2, lane");
        LaneCymbals x = new LaneCymbals();
        Check.due("lane(4)", x.lane(4), 0);
        Check.due("count(5)", x.count(5), 4);
        x.one(0, 0, 9);
        x.one(0, 1, 9);
        x.aunt(0, 0);
        x.sends(0, 0);
        x.counts(2);
        x.heard(1, 1);
        x.note(0, 1, 1, 1);
        x.mark(0, 1, 1, 1);
        x.type('a');
        x.slips(1, 0);
        x.image(0);
        x.lane(31);
        Check.counted("ahead", x, 2, 1, 0, 2, 15, 4, 1, 1, 1, 2, 1);
        Check.due("lane(30)", x.lane(30), 2);
        Check.counted("behind", x, 0, 0, 0, 0, 0, 30, 0, 0, 0, 0, 1);
        Check.due("part(0)", x.part(0), 1);
        Check.due("an aunt who comes is there", x.aunt(0, 0), 0);
        Check.due("about(0, 2)", x.about(0, 2), 1);
        Check.due("from(0)", x.from(0), 1);
        Check.due("the image is kept", x.count(0), 2);
        Check.due("lane(3)", x.lane(3), -2);
        Check.due("lane(31)", x.lane(31), -2);
        Check.due("lane(MIN)", x.lane(Integer.MIN_VALUE), -2);
        Check.due("all stays", x.count(0), 2);
        Check.refused("lane", x, 4, 0, 0);
    }

    private static void wide() {
        Check.under("Promise 3, wide");
        LaneCymbals x = Check.told("lane 10; one 0 0 6; one 0 1 6; aunt 0 0;");
        x.heard(1, 1);
        x.counts(2);
        x.swings(0, 7);
        Check.due("wide(31)", x.wide(31), -2);
        Check.due("wide(3)", x.wide(3), -2);
        Check.due("a bad one leaves what may be undone", x.count(9), 2);
        Check.due("wide(30)", x.wide(30), 10);
        Check.counted("all else as it is", x, 2, 1, 1, 2, 1, 30, 1, 0, 0, 0, 0);
        Check.due("undo()", x.undo(), -3);
        Check.due("wide(4)", x.wide(4), 30);
        Check.due("wide(4) again", x.wide(4), 4);
        Check.due("of(0, 2)", x.of(0, 2), 7);
        x.counts(1);
        x.wide(4);
        Check.due("the same width, too, ends what may be undone", x.count(9), 0);
        Check.refused("wide", x, 2, 1, 0);
    }

    private static void one() {
        Check.under("Promise 4, one");
        LaneCymbals x = new LaneCymbals();
        int[][] wrong = {{-1, 0, 0}, {6, 0, 0}, {0, -1, 0}, {0, 2, 0}, {0, 0, -1}, {0, 0, 10}};
        for (int[] w : wrong) {
            Check.due("one of wrong numbers", x.one(w[0], w[1], w[2]), -2);
        }
        Check.due("nobody", x.count(0), 0);
        for (int i = 0; i < 7; i++) {
            x.counts(1);
            Check.due("one", x.one(i % 6, i % 2, 9 - i), i);
            Check.due("nothing to undo", x.count(9), 0);
        }
        x.counts(1);
        Check.due("an 8th", x.one(0, 0, 0), -4);
        Check.due("a bad 8th", x.one(0, 0, 10), -2);
        Check.due("refused: undo stays", x.count(9), 1);
        Check.due("7 people", x.count(0), 7);
        Check.due("of(6, 2)", x.of(6, 2), 3);
        Check.refused("one", x, 7, 0, 1);
    }

    private static void aunt() {
        Check.under("Promise 5, aunt");
        LaneCymbals x = new LaneCymbals();
        int[][] wrong = {{-1, 0}, {6, 0}, {0, -1}, {0, 2}};
        for (int[] w : wrong) {
            Check.due("aunt of wrong numbers", x.aunt(w[0], w[1]), -2);
        }
        for (int i = 0; i < 4; i++) {
            x.counts(1);
            Check.due("aunt", x.aunt(5 - i, i % 2), i);
            Check.due("nothing to undo", x.count(9), 0);
            Check.due("there", x.about(i, 2), 1);
        }
        x.counts(1);
        Check.due("a 5th", x.aunt(0, 0), -4);
        Check.due("a bad 5th", x.aunt(0, 2), -2);
        Check.due("refused: undo stays", x.count(9), 1);
        Check.due("4 aunts", x.count(1), 4);
        Check.due("4 there", x.count(2), 4);
        Check.refused("aunt", x, 5, 0, 1);
    }

    private static void typeAndClear() {
        Check.under("Promises 6 and 7, type and clear");
        LaneCymbals x = new LaneCymbals();
        Check.due("type(-1)", x.type(-1), -2);
        Check.due("type(128)", x.type(128), -2);
        Check.due("type(0)", x.type(0), 1);
        Check.due("type(127)", x.type(127), 2);
        for (int k = 3; k <= 150; k++) {
            Check.due("type", x.type('a'), k);
        }
        Check.due("a 151st", x.type('a'), -4);
        Check.due("a bad 151st", x.type(128), -2);
        Check.due("count(10)", x.count(10), 150);
        Check.due("clear()", x.clear(), 150);
        Check.due("clear() again", x.clear(), 0);
        Check.due("count(10)", x.count(10), 0);
        Check.due("read() of nothing", x.read(), -10);
        Check.due("type", x.type('a'), 1);
        Check.refused("type", x, 3, 0, 1);
    }

    private static void read(String text, int want) {
        LaneCymbals x = new LaneCymbals();
        Check.type(x, text);
        Check.due("read() of '" + text + "'", x.read(), want);
        Check.due("the text stays", x.count(10), text.length());
        Check.refused("a fault is no refusal", x, 0, 0, 0);
    }

    private static void readWhatIsTold() {
        Check.under("Promise 8, read");
        read("lane 4;", 1);
        read("lane 30;", 1);
        read("  lane   4  ;  ", 1);
        read("lane4;", 1);
        read("lane 04;", 1);
        read("lane 4;one 0 0 9;one5 1 00;aunt 3 1;away 0;counts 1;counts 99;", 7);
        read("lane 4;one 00 01 09;", 2);
        read("lane 4;aunt 0 0;away 0;away 0;", 4);
        LaneCymbals x = Check.told("lane 9;one 0 0 9;one 0 1 9;counts 2;aunt 2 1;aunt 4 0;away 0;one 5 1 3;");
        Check.counted("told", x, 3, 2, 1, 2, 10, 9, 0, 0, 0, 0, 0);
        Check.due("of(2, 0)", x.of(2, 0), 5);
        Check.due("of(2, 1)", x.of(2, 1), 1);
        Check.due("of(2, 2)", x.of(2, 2), 3);
        Check.due("about(0, 0)", x.about(0, 0), 2);
        Check.due("about(0, 1)", x.about(0, 1), 1);
        Check.due("about(0, 2)", x.about(0, 2), 0);
        Check.due("about(1, 2)", x.about(1, 2), 1);
        x = Check.told("lane 9;counts 2;one 0 0 9;one 0 1 9;");
        Check.due("counts go by where they stand", x.count(4), 0);
        StringBuilder most = new StringBuilder("lane 9;");
        for (int k = 0; k < 15; k++) {
            most.append("counts99;");
        }
        x = Check.told(most.toString());
        Check.due("15 times 99 counts", x.count(3), 1485);
    }

    private static void readKeepsAllAtAFault() {
        Check.under("Promise 8, read, all stays");
        LaneCymbals x = Check.told("lane 9;one 0 0 9;one 0 1 9;aunt 0 0;");
        x.counts(2);
        x.heard(3, 1);
        x.note(0, 1, 1, 1);
        x.mark(0, 1, 1, 1);
        Check.type(x, "lane 4;one 1 1 1;counts 9;x");
        long before = x.digest();
        Check.due("read()", x.read(), -36);
        Check.due("all stays", x.digest(), before);
        Check.due("undo()", x.undo(), 0);
    }

    private static void readTakesThePlaceOfAll() {
        Check.under("Promise 8, read");
        LaneCymbals x = Check.told("lane 9;one 0 0 9;one 0 1 9;aunt 0 0;");
        x.counts(2);
        x.heard(3, 1);
        x.note(0, 1, 1, 1);
        x.mark(0, 1, 1, 1);
        x.slips(1, 0);
        x.image(1);
        x.sound(100);
        Check.type(x, "lane 5;one 2 1 4;counts 3;");
        Check.due("read()", x.read(), 3);
        Check.counted("read", x, 1, 0, 0, 3, 0, 5, 0, 0, 0, 0, 26);
        Check.due("part(0)", x.part(0), 1);
        Check.due("part(1)", x.part(1), 1);
        Check.refused("read", x, 1, 0, 0);
        Check.due("undo()", x.undo(), -3);
        Check.due("from(1)", x.from(1), 1);
        Check.due("the image is as it was", x.count(0), 2);
    }
}
