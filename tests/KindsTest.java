/** "Terms": KINDS of PEOPLE and of AUNTS, LEANING, TOUCH, SOUND, a COUNT gone by; each at its edges. */
public final class KindsTest {
    private static final int[] LEANED = {-20, -3, -2, -1, 0, 1, 2, 3, 4, 5, 8, 9, 10, 11, 19, 20};
    private static final int[] AUNT = {-20, -3, -2, -1, 0, 0, 0, 1, 2, 3, 6, 7, 8, 9, 17, 18};
    private static final int[] FEATHER = {-20, -3, -2, -1, 0, 0, 0, 1, 2, 3, 6, 4, 5, 5, 9, 10};
    private static final int[] STRICT = {-20, -3, -2, -1, 0, 0, 0, 0, 0, 1, 4, 5, 6, 7, 15, 16};
    private static final int[] NOUGHT = new int[LEANED.length];

    public static void main(String[] args) {
        kindsOfPeople();
        kindsOfAunts();
        leaning();
        leaningOfOneHouse();
        touch();
        soundOfEachPair();
        aCountGoneBy();
        countsBeyondTheLast();
        Check.end();
    }

    /** How far each kind leans with a swing of 0, 1, 2, 3, 8, 9 at counts 0 to 11; then it begins anew. */
    private static void kindsOfPeople() {
        int[] swings = {0, 1, 2, 3, 8, 9};
        people(0, "PLAIN", swings, new int[] {0, 1, 2, 3, 8, 9}, new int[] {0, 1, 2, 3, 8, 9}, 1, 3);
        people(1, "GIRL", swings, new int[] {0, 2, 3, 4, 9, 10}, new int[] {0, 1, 2, 3, 8, 9}, 1, 3);
        people(2, "ELDER", swings, new int[] {0, 0, 1, 1, 4, 4}, new int[] {0, 0, 1, 1, 4, 4}, 1, 3);
        people(3, "CHOKE", swings, new int[] {0, 1, 2, 3, 8, 9}, new int[] {0, 1, 2, 3, 8, 9}, 1, 3);
        people(4, "WAVER", swings, new int[] {0, 2, 3, 4, 9, 10}, new int[] {0, 1, 2, 3, 8, 9}, 0, 2);
        people(5, "BRASS", swings, new int[] {0, 0, 3, 3, 12, 12}, new int[] {0, 0, 3, 3, 12, 12}, 1, 3);
    }

    /** Towards the lane at one of each four counts, away from it at another one. */
    private static void people(int kind, String name, int[] swings, int[] towards, int[] away, int to, int from) {
        Check.under("Terms, KINDS of PEOPLE, " + name);
        for (int k = 0; k < swings.length; k++) {
            LaneCymbals x = new LaneCymbals();
            x.one(kind, k % 2, swings[k]);
            for (int c = 0; c <= 99; c++) {
                int want = c % 4 == to ? towards[k] : c % 4 == from ? -away[k] : 0;
                boolean choked = kind == 3 && c % 3 == 0;
                Check.due("swing of " + swings[k] + ", leans(0," + c + ",0)", x.leans(0, c, 0), choked ? 0 : want);
            }
        }
    }

    /** Counts of each sort: even or not, 4 divides it or not, 5 leaves 4 over or not. */
    private static void kindsOfAunts() {
        int[][][] tables = {
            {{0, 8, 12, 16, 20, 60, 96}, AUNT, FEATHER, STRICT, AUNT, AUNT, NOUGHT},
            {{4, 24, 44, 64, 84}, AUNT, FEATHER, STRICT, AUNT, LEANED, NOUGHT},
            {{2, 6, 10, 18, 22, 98}, AUNT, FEATHER, STRICT, AUNT, AUNT, STRICT},
            {{14, 34, 54, 74, 94}, AUNT, FEATHER, STRICT, AUNT, LEANED, STRICT},
            {{1, 3, 5, 7, 11, 13, 15, 95, 97}, AUNT, FEATHER, STRICT, LEANED, LEANED, STRICT},
            {{9, 19, 29, 39, 99}, AUNT, FEATHER, STRICT, LEANED, LEANED, STRICT}};
        Check.under("Terms, KINDS of AUNTS");
        for (int[][] table : tables) {
            for (int c : table[0]) {
                for (int k = 0; k < LEANED.length; k++) {
                    aunts(c, k, table);
                }
            }
        }
    }

    /** Each kind that leaves y yet is one that WHAT tells of a MARK of it, and no other kind is. */
    private static void aunts(int c, int k, int[][] table) {
        LaneCymbals x = new LaneCymbals();
        x.aunt(0, 0);
        for (int y = -20; y <= 20; y++) {
            int bits = 0;
            for (int kind = 0; kind < 6; kind++) {
                bits |= table[kind + 1][k] == y ? 1 << kind : 0;
            }
            x.mark(0, LEANED[k], c, y);
            Check.due("kinds(0) of mark(0," + LEANED[k] + "," + c + "," + y + ")", x.kinds(0), bits);
            x.forget(2);
        }
    }

    private static void leaning() {
        Check.under("Terms, LEANING, damped by each AUNT, by numbers");
        new Calls().run("one(5,0,9) aunt(1,0) aunt(0,0)").dueAll("leans(0,1,0) 12 leans(0,1,1) 4")
                .run("sends(0,0)").due("leans(0,1,1)", 10).run("sends(0,1) sends(1,0)").due("leans(0,1,1)", 6)
                .run("sends(0,0)").due("leans(0,1,1)", 12);
        new Calls().run("one(5,0,9) aunt(0,0) aunt(1,0)").dueAll("leans(0,1,0) 12 leans(0,1,1) 5");
        new Calls().run("one(5,0,9) aunt(0,0) aunt(0,0) aunt(0,0) aunt(1,0)").due("leans(0,1,1)", 4)
                .run("sends(0,0)").due("leans(0,1,1)", 6).run("sends(1,0)").due("leans(0,1,1)", 5);
        new Calls().run("one(0,0,9) aunt(2,0) aunt(2,0) aunt(0,0) aunt(0,0)").dueAll("leans(0,1,1) 0 leans(0,3,1) -9");
        new Calls().run("one(0,0,9) aunt(2,0) aunt(0,0) aunt(0,0)").due("leans(0,1,1)", 1);
        Check.under("Terms, LEANING, below 0");
        for (int kind = 0; kind < 6; kind++) {
            new Calls().run("one(0,1,9) one(4,1,5) aunt(" + kind + ",1)")
                    .dueAll("leans(0,3,1) -9 leans(0,99,1) -9 leans(1,2,1) -5 leans(1,14,1) -5 leans(1,3,1) 0");
        }
    }

    private static void leaningOfOneHouse() {
        Check.under("Terms, LEANING, by AUNTS of one's own HOUSE who are there");
        new Calls().run("one(0,0,9) one(0,1,9) aunt(0,0)").dueAll("leans(0,1,1) 7 leans(1,1,1) 9");
        new Calls().run("one(0,0,9) one(0,1,9) aunt(0,1)").dueAll("leans(0,1,1) 9 leans(1,1,1) 7")
                .run("sends(0,0)").dueAll("leans(0,1,1) 9 leans(1,1,1) 9").run("sends(0,1)").due("leans(1,1,1)", 7);
        new Calls().run("one(0,0,9) one(0,1,9) aunt(0,1) aunt(2,0) aunt(0,1) aunt(0,1)")
                .dueAll("leans(0,1,1) 5 leans(1,1,1) 3").run("sends(3,0)").dueAll("leans(0,1,1) 5 leans(1,1,1) 5");
    }

    private static void touch() {
        Check.under("Terms, TOUCH, as much as WIDE or more");
        new Calls().run("lane(18) one(0,0,9) one(0,1,9)").due("sound(1)", 1)
                .run("wide(17)").due("sound(1)", 2).run("wide(19)").due("sound(1)", 0);
        new Calls().run("lane(24) one(5,0,9) one(5,1,9)").dueAll("sound(1) 1 widest() 24")
                .run("wide(25)").due("sound(1)", 0).run("wide(4)").due("sound(1)", 21).run("wide(30)").due("sound(1)", 0);
        new Calls().run("lane(4) one(0,0,2) one(0,1,2)").due("sound(1)", 1).run("swings(0,1)").due("sound(1)", 0);
        Check.under("Terms, TOUCH, both LEANINGS 1 or more");
        new Calls().run("lane(12) one(5,0,9) one(0,1,0)").dueAll("sound(1) 0 entry() -1 widest() -1 wrong(1) 0")
                .run("swings(1,1)").dueAll("sound(1) 2 entry() 1 widest() 13 wrong(1) 3");
        new Calls().run("lane(12) one(0,0,0) one(5,1,9)").dueAll("sound(1) 0 entry() -1 widest() -1 wrong(1) 0")
                .run("swings(0,1)").dueAll("sound(1) 2 entry() 1 widest() 13 wrong(1) 3");
        new Calls().run("lane(4) one(0,0,2) one(0,1,9) aunt(0,0)").dueAll("sound(1) 0 entry() -1 widest() -1")
                .run("swings(0,3)").dueAll("sound(1) 7 entry() 1 widest() 10");
        new Calls().run("lane(4) one(0,0,9) one(0,1,2) aunt(0,1)").due("sound(1)", 0)
                .run("swings(1,3)").due("sound(1)", 7);
        new Calls().run("lane(4) one(0,0,9) one(0,1,9)").dueAll("sound(3) 0 sound(99) 0 sound(0) 0 sound(2) 0");
        Check.under("Terms, TOUCH, one of each HOUSE");
        new Calls().run("lane(4) one(0,0,9) one(1,0,9)").dueAll("sound(1) 0 entry() -1 widest() -1");
        new Calls().run("lane(4) one(0,1,9) one(1,1,9)").dueAll("sound(1) 0 entry() -1 widest() -1");
        new Calls().run("lane(4) one(0,1,9) one(4,0,9)").dueAll("sound(0) 0 sound(1) 0 entry() -1");
    }

    private static void soundOfEachPair() {
        Check.under("Terms, SOUND, each pair");
        Calls x = new Calls().run("lane(4) one(5,0,9)").due("sound(1)", 0);
        int[] want = {21, 42, 84, 126, 189, 252};
        for (int i = 1; i < 7; i++) {
            x.run("one(5," + i % 2 + ",9)").due("sound(1)", want[i - 1]);
        }
        x.dueAll("sound(97) 252 wrong(1) 0");
        // 9 and 1, 9 and 2, 8 and 2, but not 8 and 1.
        new Calls().run("lane(10) one(0,0,9) one(0,1,1) one(0,1,2) one(0,1,0) one(0,0,8) one(1,0,1)").due("sound(1)", 4);
    }

    private static void aCountGoneBy() {
        Check.under("Terms, a COUNT gone by");
        Calls x = new Calls().run("lane(17) one(0,0,9) one(0,1,8)");
        x.dueAll("counts(1) 0 count(3) 1 counts(1) 1 count(3) 2 counts(1) 0 count(3) 3 counts(1) 0 counts(1) 0 counts(1) 1");
        x = new Calls().run("lane(15) one(0,0,9) one(0,1,8) counts(1)");
        x.dueAll("counts(1) 3 counts(1) 1 counts(1) 0 count(3) 4");
        x = new Calls().run("lane(4) one(5,0,9) one(5,1,9) one(5,0,9) one(5,1,9) one(5,0,9) one(5,1,9) one(5,0,9)");
        x.dueAll("counts(1) 0 counts(1) 252 counts(1) 126 counts(1) 63 counts(1) 31 counts(1) 267 counts(1) 133")
                .dueAll("counts(1) 66 counts(1) 33 counts(1) 268 count(4) 268 count(9) 8");
        new Calls().run("lane(4) one(0,0,9) one(0,1,9) counts(99) swings(0,0)")
                .dueAll("count(4) 7 counts(1) 3 counts(1) 1 counts(1) 0");
    }

    private static void countsBeyondTheLast() {
        Check.under("Terms, COUNTS go beyond 9999 in what is asked");
        Calls.late().dueAll("count(3) 9999 entry() 1 then(0) 3 then(1) 1 then(2) 8 then(3) 7 then(4) 3 then(60) 3")
                .dueAll("still(1) 0 still(2) -1 widest() 17").run("wide(17)").dueAll("entry() 1 then(2) 1 then(3) 0")
                .run("wide(18)").dueAll("entry() -1 still(60) 1 count(3) 9999");
        Check.under("Terms, COUNTS 9999 at most, in all that goes by them");
        Calls.late().dueAll("undo() 9900 counts(99) 3 count(3) 9999 undo() 9900 counts(98) 7 count(3) 9998")
                .dueAll("counts(2) 3 count(3) 9999 count(4) 3");
        Calls.late().run("sends(0,0)").dueAll("counts(50) 3 undo() 9999 about(0,2) 0 undo() 9999 about(0,2) 1");
    }
}
