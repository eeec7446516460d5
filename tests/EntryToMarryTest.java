/** "Terms": ENTRY, THEN, STILL, PUSH, WIDEST, WRONG, MARRY; each sentence at its edges. */
public final class EntryToMarryTest {
    public static void main(String[] args) {
        entry();
        then();
        still();
        stillOfLikeOnes();
        push();
        widest();
        wrong();
        eachOne();
        marryUnlikeByTwo();
        marryWho();
        marryFirstWay();
        Check.end();
    }

    /** WAVERS who touch over 20 only where a DEAF aunt does not hear: at counts 4, 24, 44 .. */
    private static Calls eachTwentieth() {
        return new Calls().run("lane(20) one(4,0,9) one(4,1,9) aunt(4,0)");
    }

    private static void entry() {
        Check.under("Terms, ENTRY, 0: the COUNT that comes");
        new Calls().run("lane(18) one(0,0,9) one(0,1,9)").dueAll("entry() 1 counts(1) 0 entry() 0 counts(1) 1 entry() 3")
                .dueAll("counts(1) 0 entry() 2 counts(1) 0 entry() 1 counts(1) 0 entry() 0");
        new Calls().run("lane(20) one(4,0,9) one(4,1,9)").dueAll("entry() 0 counts(1) 1 entry() 3");
        Check.under("Terms, ENTRY, first; no houses are silent for more than 19 counts and sound then");
        eachTwentieth().dueAll("entry() 4 counts(4) 0 entry() 0 counts(1) 1 entry() 19 counts(19) 0 entry() 0 counts(1) 1")
                .due("entry()", 19).run("sends(0,0)").due("entry()", 3).run("wide(21)").due("entry()", -1);
        new Calls().run("lane(18) one(3,0,9) one(0,1,9)").dueAll("entry() 1 counts(6) 1 entry() 7 counts(7) 0 entry() 0");
        Check.under("Terms, ENTRY, none");
        new Calls().due("entry()", -1).run("one(0,0,9)").due("entry()", -1).run("one(0,1,2)").due("entry()", -1)
                .run("swings(1,3)").due("entry()", 1).run("aunt(0,1)").due("entry()", -1).due("status(0)", 0);
    }

    private static void then() {
        Check.under("Terms, THEN, NOISE behind m COUNTS");
        Calls x = new Calls().run("lane(4) one(0,0,9) one(0,1,9)");
        int[] want = {0, 0, 15, 7, 3, 1, 15, 7, 3, 1, 15};
        for (int m = 0; m < want.length; m++) {
            x.due("then(" + m + ")", want[m]);
        }
        x.dueAll("then(58) 15 then(59) 7 then(60) 3 then(61) -2 then(-1) -2 counts(2) 15");
        x.dueAll("then(0) 15 then(1) 7 then(59) 1 then(60) 15 count(3) 2 count(4) 15 count(9) 1");
        new Calls().run("lane(4) one(0,0,9) one(0,1,9) counts(2) swings(0,0)").dueAll("then(0) 15 then(3) 1 then(4) 0 then(60) 0");
    }

    private static void still() {
        Check.under("Terms, STILL, in the next m COUNTS");
        Calls x = new Calls().run("lane(18) one(0,0,9) one(0,1,9)");
        x.dueAll("still(1) 0 still(2) -1 counts(1) 0 still(1) -1 counts(1) 1 still(1) 0 still(3) 0 still(4) -1 still(60) -1");
        eachTwentieth().dueAll("still(1) 1 still(4) 1 still(5) -1 still(60) -1");
        x = new Calls().run("lane(20) one(4,0,9) one(4,1,9) aunt(4,0) counts(5)");
        x.dueAll("still(3) 0 still(4) 1 still(19) 1 still(20) -1 still(60) -1");
        Check.under("Terms, STILL, all others away, whoever is there now");
        new Calls().run("lane(17) one(0,0,9) one(0,1,9) aunt(0,0) aunt(0,1)").due("still(60)", 1)
                .run("sends(0,0)").due("still(60)", 1).run("sends(1,0)").due("still(60)", 1)
                .run("wide(19)").due("still(60)", 0).run("wide(15)").due("still(60)", 3).run("wide(14)").due("still(60)", -1);
        Check.under("Terms, STILL, none");
        new Calls().run("lane(18) one(0,0,9) one(0,1,9)").dueAll("still(60) -1 status(0) 0 still(0) -2 still(61) -2 status(0) 2");
        new Calls().dueAll("still(1) 0 still(60) 0");
    }

    private static void stillOfLikeOnes() {
        Check.under("Terms, STILL, the fewest AUNTS");
        Calls x = new Calls().run("lane(10) one(0,0,9) one(0,1,9) aunt(0,0) aunt(0,0) aunt(0,1) aunt(0,1)");
        x.due("still(60)", -1);
        int[][] want = {{11, 15}, {12, 15}, {13, 7}, {14, 7}, {15, 3}, {16, 3}, {17, 1}, {18, 1}, {19, 0}, {30, 0}};
        for (int[] w : want) {
            x.run("wide(" + w[0] + ")").due("still(60)", w[1]);
        }
        new Calls().run("lane(15) one(0,0,9) one(0,1,9) aunt(0,0) aunt(0,0) aunt(2,0)").due("still(60)", 4);
        new Calls().run("lane(4) one(4,0,9) one(4,1,9) aunt(0,0) aunt(2,0) aunt(2,1) aunt(5,1)").due("still(60)", 8);
        Check.under("Terms, STILL, of like ones the least");
        new Calls().run("lane(15) one(0,0,9) one(0,1,9) aunt(3,0) aunt(2,0) aunt(0,0) aunt(2,1)").due("still(60)", 2);
        new Calls().run("lane(13) one(0,0,9) one(0,1,9) aunt(3,0) aunt(0,0) aunt(2,0) aunt(2,1)").due("still(60)", 6);
        new Calls().run("lane(11) one(0,0,9) one(0,1,9) aunt(3,0) aunt(0,0) aunt(2,0) aunt(2,1)").due("still(60)", 12);
    }

    private static void push() {
        Check.under("Terms, PUSH, the least SWING 0 .. 9");
        Calls x = new Calls().run("lane(10) one(0,0,0) one(0,1,9)").dueAll("push(0,1) 1 push(1,1) -1");
        int[][] want = {{4, 1}, {11, 2}, {12, 3}, {17, 8}, {18, 9}, {19, -1}, {30, -1}};
        for (int[] w : want) {
            x.run("wide(" + w[0] + ")").due("push(0,1)", w[1]);
        }
        x.dueAll("push(0,0) -1 push(0,2) -1 push(0,3) -1 push(0,99) -1 of(0,2) 0 count(9) 0 status(0) 0");
        Check.under("Terms, PUSH, all else as it is");
        new Calls().run("lane(10) one(0,0,9) one(0,1,9) one(5,1,0)").dueAll("push(2,1) 0 push(2,97) 0 push(2,3) -1")
                .run("swings(1,0)").due("push(2,1)", 2).run("swings(0,1)").due("push(2,1)", 6)
                .run("wide(13)").due("push(2,1)", 8).run("aunt(0,1)").due("push(2,1)", -1)
                .run("sends(0,0)").due("push(2,1)", 8);
        new Calls().run("lane(4) one(4,0,9) one(4,1,9)").dueAll("push(0,0) 1 push(0,1) -1 push(0,96) 1 push(0,99) -1");
        new Calls().run("lane(19) one(0,0,9) one(0,1,9) one(4,1,9)").due("push(0,1)", -1).run("wide(18)").due("push(0,1)", 9);
        new Calls().run("lane(4) one(0,0,9)").dueAll("push(0,1) -1 push(0,0) -1");
    }

    private static void widest() {
        Check.under("Terms, WIDEST, 4 .. 30");
        Calls x = new Calls().run("lane(30) one(0,0,1) one(0,1,2)").due("widest()", -1);
        x.run("swings(0,2)").due("widest()", 4).run("swings(1,9)").due("widest()", 11).run("wide(4)").due("widest()", 11);
        x.run("one(5,0,9)").due("widest()", 21).run("one(5,1,9)").due("widest()", 24).run("one(5,1,9)").due("widest()", 24);
        new Calls().due("widest()", -1).run("one(5,0,9)").due("widest()", -1).due("status(0)", 0);
        Check.under("Terms, WIDEST, in the next 60 COUNTS");
        eachTwentieth().due("widest()", 20).run("counts(4)").due("widest()", 20).run("counts(1)").due("widest()", 20);
        x = new Calls().run("lane(4) one(3,0,9) one(0,1,9) one(0,0,3)").due("widest()", 18);
        x.run("counts(6)").due("widest()", 18).run("aunt(5,0)").due("widest()", 14).run("sends(0,0)").due("widest()", 18);
    }

    private static void wrong() {
        Check.under("Terms, WRONG, without whom alone nothing would SOUND");
        Calls x = new Calls().run("lane(10) one(0,0,9) one(0,1,1)").dueAll("wrong(1) 3 wrong(97) 3");
        x.run("one(0,1,1)").due("wrong(1)", 1).run("one(0,0,9)").due("wrong(1)", 0).run("one(0,0,2)").due("wrong(1)", 0);
        x.run("swings(2,0) swings(3,8)").due("wrong(1)", 3).run("swings(0,8)").due("wrong(1)", 0);
        new Calls().run("lane(18) one(0,0,8) one(0,0,8) one(0,0,8) one(0,0,8) one(0,0,8) one(0,0,9) one(0,1,9)")
                .due("wrong(1)", 96).run("wide(17)").due("wrong(1)", 64).run("wide(19)").due("wrong(1)", 0);
        new Calls().run("lane(12) one(5,0,9) one(5,1,9) one(0,1,0)").due("wrong(1)", 3);
        new Calls().run("lane(4) one(0,0,0) one(0,0,1) one(0,0,1) one(0,0,0) one(0,0,0) one(0,0,2) one(0,1,2)").due("wrong(1)", 96);
        Check.under("Terms, WRONG, 0: it does not SOUND");
        x.dueAll("wrong(0) 0 wrong(2) 0 wrong(3) 0 wrong(99) 0").run("wide(30)").due("wrong(1)", 0);
        new Calls().dueAll("wrong(0) 0 wrong(1) 0 wrong(99) 0");
        Check.under("Terms, WRONG, damped as they are");
        new Calls().run("lane(10) one(0,0,9) one(0,0,9) one(0,1,3) aunt(0,0)").due("wrong(1)", 4)
                .run("swings(1,8)").due("wrong(1)", 5).run("sends(0,0)").due("wrong(1)", 4);
    }

    /** Each number once is the only one of his house who leans: all that is asked hears him. */
    private static void eachOne() {
        for (int i = 0; i < 14; i++) {
            StringBuilder houses = new StringBuilder("lane(18)");
            for (int k = 0; k < 7; k++) {
                boolean isHe = k == i % 7;
                boolean isOther = k == (i + 1) % 7;
                houses.append(" one(0,").append(isOther ? 1 - i / 7 : i / 7).append(isHe || isOther ? ",9)" : ",0)");
            }
            Check.under("Terms, each of 7 PEOPLE counts, number " + i % 7);
            int bits = 1 << i % 7 | 1 << (i + 1) % 7;
            Calls x = new Calls().run(houses.toString());
            x.dueAll("sound(1) 1 entry() 1 widest() 18 hear() 1 lanes() 134217727 still(2) -1 then(2) 1").due("wrong(1)", bits);
            x.dueAll("push(I,1) 9 push(J,1) 9".replace("I", "" + i % 7).replace("J", "" + (i + 1) % 7));
            x.run("heard(1,1)").dueAll("swung(I) 512 lanes() 32767 counts(2) 1".replace("I", "" + i % 7));
            x.run("wide(4)").due("wrong(1)", bits);
        }
    }

    private static void pair(String who, boolean alike) {
        new Calls().run("lane(30) " + who).dueAll(alike ? "marry(-1) 1 marry(0) 1 marry(1) 0" : "marry(-1) 0 marry(0) -1 marry(1) -1");
    }

    private static void marryUnlikeByTwo() {
        Check.under("Terms, MARRY, unlike by 2 or less");
        pair("one(0,0,9) one(0,1,9)", true);
        pair("one(0,0,9) one(0,1,7)", true);
        pair("one(0,0,7) one(0,1,9)", true);
        pair("one(0,0,9) one(0,1,6)", false);
        pair("one(0,0,6) one(0,1,9)", false);
        pair("one(0,1,6) one(0,0,9)", false);
        Check.under("Terms, MARRY, at each of COUNTS 0 .. 3");
        pair("one(4,0,1) one(0,1,0)", true);
        pair("one(4,0,2) one(0,1,0)", false);
        pair("one(1,0,3) one(0,1,2)", true);
        pair("one(1,0,4) one(0,1,2)", false);
        pair("one(3,0,2) one(0,1,2)", true);
        pair("one(3,0,3) one(0,1,3)", false);
        pair("one(1,0,2) one(0,1,4)", true);
        pair("one(1,0,2) one(0,1,5)", false);
        pair("one(4,0,1) one(4,1,3)", true);
        pair("one(4,0,1) one(4,1,4)", false);
        Check.under("Terms, MARRY, not at COUNTS behind 3: at 7 and 9 these are unlike by 3");
        pair("one(3,0,5) one(1,1,2)", true);
        new Calls().run("lane(30) one(3,0,5) one(1,1,2) counts(4)").due("marry(-1)", 1);
        Check.under("Terms, MARRY, who LEAN, not damped");
        pair("one(0,0,9) one(0,1,9) aunt(5,0) aunt(2,0)", true);
        pair("one(0,0,9) one(0,1,5) aunt(2,0)", false);
    }

    private static void marryWho() {
        Check.under("Terms, MARRY, one of HOUSE 0 and one of HOUSE 1");
        pair("one(0,0,9) one(0,0,9)", false);
        pair("one(0,1,9) one(0,1,9)", false);
        pair("one(0,1,9) one(0,0,9)", true);
        new Calls().run("one(0,0,9)").dueAll("marry(-1) 0 marry(0) -1 marry(1) -10");
        new Calls().dueAll("marry(-1) 0 marry(0) -10 marry(-2) -10 status(0) 2");
    }

    private static void ways(String houses, int... want) {
        Calls x = new Calls().run(houses);
        for (int i = -1; i + 1 < want.length; i++) {
            x.due("marry(" + i + ")", want[i + 1]);
        }
    }

    private static void marryFirstWay() {
        Check.under("Terms, MARRY, nobody in two; the most pairs");
        ways("one(0,0,5) one(0,1,5) one(0,1,5) one(0,1,5)", 1, 1, 0, -1, -1);
        ways("one(0,1,5) one(0,0,5) one(0,0,5) one(0,0,5)", 1, 3, -1, -1, 0);
        ways("one(0,0,5) one(0,0,5) one(0,0,5) one(0,1,5) one(0,1,5) one(0,1,5) one(0,1,5)", 3, 3, 4, 5, 0, 1, 2, -1);
        ways("one(0,1,9) one(0,1,9) one(0,1,9) one(0,1,9) one(0,1,9) one(0,1,5) one(0,0,5)", 1, -1, -1, -1, -1, -1, 6, 5);
        ways("one(0,0,5) one(0,0,9) one(0,0,9) one(0,0,9) one(0,0,9) one(0,0,9) one(0,1,5)", 1, 6, -1, -1, -1, -1, -1, 0);
        ways("one(0,0,0) one(0,0,3) one(0,1,2) one(0,1,5)", 2, 2, 3, 0, 1);
        ways("one(0,0,3) one(0,0,0) one(0,1,2) one(0,1,5)", 2, 3, 2, 1, 0);
        Check.under("Terms, MARRY, each alone first, then by whom rising");
        ways("one(0,0,5) one(0,0,5) one(0,1,5)", 1, -1, 2, 1);
        ways("one(0,0,5) one(0,0,5) one(0,0,5) one(0,1,5) one(0,1,5)", 2, -1, 3, 4, 1, 2);
        ways("one(0,0,5) one(0,0,0) one(0,0,5) one(0,1,5) one(0,1,9)", 1, -1, -1, 3, 2, -1);
        ways("one(0,1,5) one(0,1,5) one(0,0,5) one(0,1,5) one(0,0,5)", 2, 2, 4, 0, -1, 1);
        ways("one(0,0,5) one(0,1,7) one(0,1,5) one(0,0,9)", 2, 2, 3, 0, 1);
        ways("one(0,0,9) one(0,0,5) one(0,0,1) one(0,1,3) one(0,1,7)", 2, -1, 4, 3, 2, 1);
    }
}
