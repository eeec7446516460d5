/** "Terms": HEARD to ASK, GIRL and AUNT, SLIPS, REIGNS; each sentence at its edges. */
public final class HeardToReignsTest {
    private static final int ALL_LANES = (1 << 27) - 1;

    public static void main(String[] args) {
        lanes();
        lanesOfAllHeard();
        swings();
        hear();
        is();
        look();
        what();
        ask();
        girlAndAunt();
        girlAndAuntByNumber();
        girlAndAuntRest();
        slips();
        slipsOfFour();
        reigns();
        reignsAsTold();
        Check.end();
    }

    private static void lanes() {
        Check.under("Terms, LANES, bits 0 .. 26: 4 less than that");
        Calls x = new Calls().due("lanes()", ALL_LANES).run("one(0,0,2) one(0,1,2) heard(1,1)").due("lanes()", 1);
        x.run("forget(0) heard(1,0)").due("lanes()", ALL_LANES - 1);
        x.run("swings(1,1)").due("lanes()", ALL_LANES).run("forget(0) heard(97,1)").due("lanes()", 0);
        x.run("swings(0,9) swings(1,9)").due("lanes()", (1 << 15) - 1).run("one(5,0,9) one(5,1,9)").due("lanes()", (1 << 21) - 1);
        x.run("forget(0) heard(97,0)").due("lanes()", ALL_LANES - (1 << 21) + 1).run("wide(30)").due("lanes()", ALL_LANES - (1 << 21) + 1);
        x.run("forget(0) heard(99,0) heard(0,0)").due("lanes()", ALL_LANES).run("heard(99,1)").due("lanes()", 0);
    }

    private static void lanesOfAllHeard() {
        Check.under("Terms, LANES, so that all HEARD are so");
        Calls x = new Calls().run("lane(4) one(0,0,9) one(0,1,8) one(4,0,3) one(4,1,2)");
        x.run("heard(4,0) heard(8,0) heard(12,0) heard(16,0) heard(20,0)").due("lanes()", ALL_LANES - 15);
        x.run("heard(1,1)").due("lanes()", (1 << 14) - 16).due("heard(1,0)", -4).due("lanes()", (1 << 14) - 16);
        x = new Calls().run("lane(4) one(0,0,9) one(0,1,8) one(4,0,3) one(4,1,2) heard(1,1)");
        x.run("heard(3,0) heard(3,0) heard(3,0) heard(3,0) heard(4,1)").due("lanes()", 15);
        Check.under("Terms, HEARD, the lane is as it is then, also if it is not as it was");
        x.run("aunt(5,1)").due("lanes()", 0).run("sends(0,0)").due("lanes()", 15).run("swings(3,3)").due("lanes()", 31);
    }

    private static void swings() {
        Check.under("Terms, SWINGS, bits 0 .. 9");
        Calls x = new Calls().run("lane(18) one(0,0,4) one(0,1,9)").due("swung(0)", 1023).run("heard(1,1)").due("swung(0)", 512);
        x.run("wide(19)").due("swung(0)", 0).run("wide(17)").due("swung(0)", 768).run("wide(4)").due("swung(0)", 1022);
        x.run("forget(0) heard(1,0)").due("swung(0)", 1).run("wide(17)").due("swung(0)", 255).run("wide(19)").due("swung(0)", 1023);
        x.run("heard(99,1)").due("swung(0)", 0).dueAll("of(0,2) 4 count(9) 0 swung(1) 0");
        Check.under("Terms, SWINGS, so that all HEARD are so, all else as it is");
        x = new Calls().run("lane(12) one(4,0,9) one(4,1,9) one(0,1,9) one(0,0,1) heard(0,1) heard(1,0) heard(2,0)");
        x.dueAll("swung(0) 1022 swung(1) 1022 swung(2) 1023 swung(3) 7").run("heard(4,0)").dueAll("swung(0) 0 swung(3) 0");
        x.run("forget(0) heard(0,0) heard(1,1)").dueAll("swung(0) 0 swung(2) 0 swung(3) 0");
        x.run("swings(1,0)").dueAll("swung(0) 0 swung(3) 1016 swung(2) 0").run("aunt(0,0)").due("swung(3)", 992);
        x.run("sends(0,0)").due("swung(3)", 1016);
    }

    private static void hear() {
        Check.under("Terms, HEAR, the greater part of them is least");
        Calls x = new Calls().run("one(0,0,9) one(0,1,8) one(3,1,9)").due("hear()", 9);
        x.run("swings(2,0)").due("hear()", 1).run("swings(0,8)").due("hear()", 1).run("one(4,0,7) one(4,1,7)").due("hear()", 0);
        x.run("swings(3,6)").due("hear()", 1).run("swings(4,8)").due("hear()", 0);
        Check.under("Terms, HEAR, of like ones the least");
        new Calls().dueAll("hear() 0 lanes() 134217727").run("one(0,0,1) one(0,1,1)").due("hear()", 0);
        x = new Calls().run("one(0,0,9) one(0,1,4) one(4,0,8) one(4,1,3)").due("hear()", 0);
        // 13 and 14 of 27 lanes sound at 1 and at 0: one is as good as the other.
        x.run("swings(0,9) swings(1,7) swings(2,8) swings(3,7)").due("hear()", 0).run("swings(3,8)").due("hear()", 1);
        Check.under("Terms, HEAR, LANES that fit");
        x = new Calls().run("lane(4) one(0,0,9) one(0,1,8) one(4,0,5) one(4,1,4) heard(1,1)").due("hear()", 0);
        x.run("heard(0,1)").due("hear()", 0).run("heard(3,1)").due("hear()", -1).run("forget(0) heard(1,0)").due("hear()", 0);
        x = new Calls().run("lane(30) one(0,0,2) one(0,1,2) heard(1,1)").dueAll("lanes() 1 hear() 0");
        x.run("swings(0,1)").dueAll("lanes() 0 hear() -1 status(0) 0");
        new Calls().run("one(4,0,9) one(4,1,9) aunt(4,0) aunt(2,1) aunt(2,0)").due("hear()", 4).run("sends(1,0)").due("hear()", 4);
    }

    private static Calls noted(String notes) {
        return new Calls().run("one(0,0,9) one(0,1,9) " + notes);
    }

    private static void is() {
        Check.under("Terms, IS, KINDS by which all NOTES of one are so");
        noted("note(0,0,1,0)").dueAll("is(0) 63 is(1) 63");
        noted("note(0,1,1,2)").dueAll("is(0) 2 is(1) 63");
        noted("note(0,1,1,0)").due("is(0)", 52).run("note(1,1,1,0) note(1,1,0,2)").dueAll("is(1) 16 is(0) 52");
        noted("note(0,9,1,9)").due("is(0)", 9).run("note(0,9,9,9)").due("is(0)", 1);
        noted("note(0,9,1,12)").due("is(0)", 32).run("note(0,9,3,-12)").due("is(0)", 32).run("note(0,9,3,12)").due("is(0)", 0);
        noted("note(0,9,0,10)").due("is(0)", 16).run("note(0,9,98,-9)").due("is(0)", 16);
        noted("note(0,9,99,0)").due("is(0)", 24).run("note(0,9,3,0)").due("is(0)", 24).run("note(0,9,7,0)").due("is(0)", 16);
        noted("note(0,1,3,-1)").due("is(0)", 3).run("note(0,3,3,-1)").due("is(0)", 0);
        noted("note(0,3,3,-1)").due("is(0)", 4);
        noted("note(0,9,0,20)").due("is(0)", 0);
        noted("note(0,9,0,-20)").due("is(0)", 0);
        noted("note(1,0,0,0) note(1,0,0,0) note(1,0,0,0) note(1,0,0,0) note(0,0,0,0) note(0,9,1,10)").dueAll("is(0) 2 is(1) 63");
        noted("note(0,9,1,10) note(1,0,0,0) note(1,0,0,0) note(1,0,0,0) note(1,0,0,0) note(1,0,0,1)").dueAll("is(0) 2 is(1) 0");
    }

    private static void look() {
        Check.under("Terms, LOOK, the most that LEAN alike are fewest; of like ones the least");
        noted("note(1,0,0,0)").dueAll("look(0) 12 look(1) 12");
        noted("note(0,5,0,0)").dueAll("is(0) 47 look(0) 94 look(1) 12");
        noted("note(0,5,1,5)").dueAll("is(0) 9 look(0) 31");
        noted("note(0,5,3,-5)").dueAll("is(0) 3 look(0) 11");
        noted("note(0,5,1,6)").dueAll("is(0) 34 look(0) 11");
        noted("note(0,5,3,0)").dueAll("is(0) 24 look(0) 1");
        noted("note(0,1,1,0)").dueAll("is(0) 52 look(0) 12");
        noted("note(0,1,1,0) note(0,1,0,0)").dueAll("is(0) 36 look(0) 12");
        noted("note(0,5,0,0) note(0,5,9,0)").dueAll("is(0) 8 look(0) 0");
        Check.under("Terms, LOOK, none");
        noted("note(0,5,0,20)").dueAll("is(0) 0 look(0) -1 look(1) 12 status(0) 0");
    }

    private static Calls marked(String marks) {
        return new Calls().run("aunt(0,0) aunt(0,1) " + marks);
    }

    private static void what() {
        Check.under("Terms, WHAT, KINDS of AUNTS by which all MARKS of one are so");
        marked("mark(0,0,1,0)").dueAll("kinds(0) 63 kinds(1) 63");
        marked("mark(0,3,1,1)").due("kinds(0)", 3).run("mark(0,9,1,4)").dueAll("kinds(0) 2 kinds(1) 63");
        marked("mark(0,3,1,0)").due("kinds(0)", 36).run("mark(0,9,4,5)").due("kinds(0)", 4);
        marked("mark(0,2,1,2)").due("kinds(0)", 24).run("mark(0,2,4,2)").due("kinds(0)", 16).run("mark(0,2,4,0)").due("kinds(0)", 0);
        marked("mark(0,-20,0,0)").due("kinds(0)", 32).run("mark(0,-20,1,-20)").due("kinds(0)", 32);
        marked("mark(0,20,99,20)").due("kinds(0)", 24);
        marked("mark(0,20,98,18)").due("kinds(0)", 25);
        marked("mark(1,0,0,0) mark(1,0,0,0) mark(1,0,0,0) mark(1,0,0,0) mark(0,0,0,0) mark(0,9,1,4)").dueAll("kinds(0) 2 kinds(1) 63");
        marked("mark(0,9,1,4) mark(1,0,0,0) mark(1,0,0,0) mark(1,0,0,0) mark(1,0,0,0) mark(1,0,0,1)").dueAll("kinds(0) 2 kinds(1) 0");
    }

    private static void ask() {
        Check.under("Terms, ASK, the most that leave alike are fewest; of like ones the least");
        marked("mark(1,0,0,0)").dueAll("ask(0) 103 ask(1) 103");
        marked("mark(0,3,1,1)").dueAll("kinds(0) 3 ask(0) 9");
        marked("mark(0,9,1,9)").dueAll("kinds(0) 24 ask(0) 401");
        marked("mark(0,3,1,0)").dueAll("kinds(0) 36 ask(0) 5");
        marked("mark(0,9,0,7)").dueAll("kinds(0) 25 ask(0) 101");
        marked("mark(0,9,0,7) mark(0,9,4,7)").dueAll("kinds(0) 9 ask(0) 101");
        marked("mark(0,-1,0,-1)").dueAll("kinds(0) 31 ask(0) 103");
        marked("mark(0,9,1,4)").dueAll("kinds(0) 2 ask(0) 0");
        Check.under("Terms, ASK, none");
        marked("mark(0,20,0,-20)").dueAll("kinds(0) 0 ask(0) -1 ask(1) 103 status(0) 0");
    }

    private static void girlAndAunt() {
        Check.under("Terms, GIRL and AUNT, pairs 10 j and i, the k-th, rising");
        Calls x = new Calls().run("lane(10) one(0,0,3) one(0,1,9) aunt(0,1)").due("game(0,0,1,-1)", 10);
        for (int k = 0; k < 10; k++) {
            x.due("game(0,0,1," + k + ")", k);
        }
        x.dueAll("game(0,0,1,10) -5 game(0,0,1,2147483647) -5 game(0,0,1,-2) -10 status(0) 1");
        x.dueAll("game(0,0,0,-1) 1 game(0,0,0,0) 0 game(0,0,0,1) -5 game(0,0,99,-1) 1 game(0,0,97,-1) 10");
        Check.under("Terms, GIRL and AUNT, all others as they are");
        x.run("sends(0,0)").due("game(0,0,1,-1)", 10).run("swings(1,0)").dueAll("game(0,0,1,-1) 1 game(0,0,1,0) 0");
        x.run("swings(1,9) one(0,0,9)").dueAll("game(0,0,1,-1) 2 game(0,0,1,0) 0 game(0,0,1,1) 10 of(0,2) 3 about(0,2) 0 count(2) 0");
        Check.under("Terms, GIRL and AUNT, 2 less, if she is there");
        x = new Calls().run("lane(10) one(0,0,0) one(0,1,9) one(0,1,9) aunt(2,1) sends(0,0)");
        x.dueAll("game(0,0,1,-1) 1 game(0,0,1,0) 19 game(0,0,1,1) -5");
        x = new Calls().run("lane(18) one(0,0,0) one(0,0,9) one(0,1,9) one(0,1,9) aunt(0,0)");
        x.dueAll("game(0,0,1,-1) 2 game(0,0,1,0) 0 game(0,0,1,1) 10 game(0,0,1,2) -5");
        x.run("swings(3,0)").dueAll("game(0,0,1,-1) 1 game(0,0,1,0) 0").run("swings(3,8)").dueAll("game(0,0,1,-1) 1 game(0,0,1,0) 0");
    }

    private static void girlAndAuntByNumber() {
        Check.under("Terms, GIRL and AUNT, somebody, an AUNT, each by number");
        Calls x = new Calls().run("lane(10) one(0,0,0) one(4,1,9) one(0,1,0) one(0,0,9) aunt(0,0) aunt(5,1) sends(0,0) sends(1,0)");
        // Number 2 gets 0 by any swing; GREAT, number 1, is away as long as that costs her 2 at most.
        x.dueAll("game(2,1,1,-1) 3 game(2,1,1,2) 2 game(2,1,1,3) -5 game(2,0,1,-1) 10 game(2,0,1,9) 9 game(0,1,1,-1) 1")
                .dueAll("game(0,0,1,-1) 1 game(3,1,1,-1) 1 game(3,1,1,0) 0");
        x.run("swings(2,9)").dueAll("game(0,1,1,-1) 1 game(0,1,1,0) 10 game(3,1,1,-1) 3 game(3,1,1,2) 2 game(1,0,1,-1) 2")
                .dueAll("game(1,0,1,0) 0 game(1,0,1,1) 10 game(1,0,1,2) -5");
        Check.under("Terms, GIRL and AUNT, also an AUNT who makes it louder");
        // 10 is 5 by FEATHER alone, but 8 and then 6 if AUNT comes first.
        x = new Calls().run("lane(10) one(1,0,9) one(5,1,9) aunt(0,0) aunt(1,0)").due("sound(1)", 9).run("sends(0,0)").due("sound(1)", 8);
        x.dueAll("leans(0,1,1) 5 game(0,0,1,-1) 8 game(0,0,1,0) 4 game(0,0,1,3) 7 game(0,0,1,4) 14 game(0,0,1,7) 17");
        // Whoever tells nothing by his swing gets 8 or 9: what he would get with her there is not his to choose.
        x.run("one(4,1,5)").dueAll("game(2,0,1,-1) 1 game(2,0,1,0) 0 game(2,0,1,1) -5");
    }

    /** Whether neither would get more by doing otherwise, told by sound alone. */
    private static String resting(Calls x, int i, int aunt, int c) {
        long[] sounds = new long[20];
        for (int pair = 0; pair < 20; pair++) {
            x.run("swings(" + i + "," + pair % 10 + ") sends(" + aunt + "," + pair / 10 + ")");
            sounds[pair] = x.answer("sound(" + c + ")");
        }
        StringBuilder rest = new StringBuilder();
        for (int pair = 0; pair < 20; pair++) {
            boolean rests = -sounds[pair] - 2 * (pair / 10) >= -sounds[(pair + 10) % 20] - 2 * (1 - pair / 10);
            for (int a = 0; a < 10; a++) {
                rests &= sounds[pair] - pair % 10 >= sounds[pair - pair % 10 + a] - a;
            }
            rest.append(rests ? " " + pair : "");
        }
        return rest.toString();
    }

    private static void girlAndAuntRest() {
        Check.under("Terms, GIRL and AUNT, neither would get more by doing otherwise");
        for (int kind = 0; kind < 36; kind++) {
            String houses = "lane(" + (8 + kind % 5) + ") one(" + kind % 6 + ",0,5) one(0,1,7) one(5,1,9) one(4,1,8) one(4,1,4)"
                    + " aunt(" + kind / 6 + "," + kind / 6 % 2 + ") aunt(" + kind % 6 + ",0)";
            for (int c = 0; c <= 5; c++) {
                Calls x = new Calls().run(houses);
                StringBuilder got = new StringBuilder();
                long many = x.answer("game(0,0," + c + ",-1)");
                for (int k = 0; k < many; k++) {
                    got.append(' ').append(x.answer("game(0,0," + c + "," + k + ")"));
                }
                Check.same(houses + " game(0,0," + c + ",k)", got.toString(), resting(new Calls().run(houses), 0, 0, c));
                x.due("game(0,0," + c + "," + many + ")", -5);
            }
        }
    }

    private static void chance(Calls x, int c, int o, int above, int below) {
        x.dueAll("slips(" + c + "," + o + ") 1 part(0) " + above + " part(1) " + below);
    }

    private static void slips() {
        Check.under("Terms, SLIPS, by o of 10 (0 .. 10)");
        Calls x = new Calls().run("lane(18) one(0,0,9) one(0,1,9) aunt(0,0)");
        int[][] want = {{0, 0, 1}, {1, 1, 10}, {2, 1, 5}, {3, 3, 10}, {4, 2, 5}, {5, 1, 2}, {6, 3, 5}, {7, 7, 10},
            {8, 4, 5}, {9, 9, 10}, {10, 1, 1}};
        for (int[] w : want) {
            chance(x, 1, w[0], w[1], w[2]);
        }
        chance(x, 0, 10, 0, 1);
        chance(x, 97, 10, 1, 1);
        chance(x, 99, 5, 0, 1);
        x.dueAll("slips(1,3) 1 slips(1,11) -2 slips(1,-1) -2 slips(100,3) -2 slips(-1,3) -2 part(0) 3 part(1) 10 status(0) 4");
        Check.under("Terms, SLIPS, each AUNT who is there");
        chance(x.run("sends(0,0)"), 1, 0, 1, 1);
        chance(x.run("wide(19)"), 1, 10, 0, 1);
        chance(new Calls(), 1, 5, 0, 1);
        x = new Calls().run("lane(18) one(0,0,9) one(0,1,9) aunt(0,0) aunt(0,0) sends(1,0)");
        chance(x, 1, 3, 3, 10);
        x.dueAll("count(2) 1 about(1,2) 0 about(0,2) 1 count(9) 1");
    }

    private static void slipsOfFour() {
        Check.under("Terms, SLIPS, each apart");
        Calls x = new Calls().run("lane(18) one(0,0,9) one(0,1,9) aunt(0,0) aunt(0,1) aunt(1,0) aunt(2,1)");
        chance(x, 1, 1, 1, 10000);
        chance(x, 1, 2, 1, 625);
        chance(x, 1, 5, 1, 16);
        chance(x, 1, 9, 6561, 10000);
        chance(x, 1, 10, 1, 1);
        chance(x, 1, 0, 0, 1);
        x = new Calls().run("lane(11) one(0,0,9) one(0,1,9) aunt(0,0) aunt(0,0) aunt(0,1) aunt(0,1)");
        chance(x, 1, 1, 3439, 10000);
        chance(x, 1, 10, 1, 1);
        chance(x.run("wide(10)"), 1, 0, 1, 1);
        chance(x.run("wide(16) sends(3,0)"), 1, 1, 7, 250);
        chance(x.run("wide(17)"), 1, 1, 1, 1000);
        chance(x.run("wide(14)"), 1, 1, 271, 1000);
    }

    private static void reigns() {
        Check.under("Terms, REIGNS, SEED 0 .. 999999, n 0 .. 60 COUNTS");
        Calls x = new Calls().run("lane(10) one(0,0,9) one(0,1,9)");
        x.dueAll("reigns(0,0) 0 reigns(0,1) 0 reigns(0,2) 0 reigns(0,60) 11 reigns(1,0) 0 reigns(1,1) 0 reigns(1,2) 9")
                .dueAll("reigns(1,5) 9 reigns(1,6) 13 reigns(1,60) 21 reigns(999999,1) 0 reigns(999999,2) 9")
                .dueAll("reigns(999999,5) 9 reigns(999999,6) 18 reigns(999999,10) 18 reigns(999999,60) 27")
                .dueAll("reigns(999999,61) -2 reigns(1000000,60) -2 reigns(0,-1) -2 reigns(-1,0) -2 of(0,2) 9 count(3) 0");
        x = new Calls().run("lane(4)");
        for (int i = 0; i < 7; i++) {
            x.run("one(" + i % 6 + "," + i % 2 + "," + (9 - i) + ")");
        }
        x.dueAll("reigns(0,1) 0 reigns(0,2) 36 reigns(0,60) 681 reigns(1,2) 69 reigns(999999,2) 60 reigns(999999,60) 680");
        x.run("counts(2)").dueAll("reigns(0,59) 607 reigns(0,60) 673 reigns(999998,60) 883 reigns(999999,59) 633");
        x.run("wide(9) aunt(1,0) aunt(3,1) aunt(0,1) sends(2,0)").dueAll("reigns(0,59) 82 reigns(0,60) 93 reigns(1,60) 114")
                .dueAll("reigns(999998,59) 212 reigns(999999,60) 173 count(9) 1 count(3) 2");
    }

    private static void reignsAsTold() {
        Check.under("Terms, REIGNS, not there: nobody");
        new Calls().dueAll("reigns(0,60) 0 reigns(999999,60) 0");
        new Calls().run("lane(4) one(0,0,9)").due("reigns(999999,60)", 0);
        // X is 1751684876 and then 836118613: number 2 swings by 0, then number 4, who is not there, by 7.
        new Calls().run("lane(4) one(0,0,9) one(0,1,9) one(0,1,9) one(0,1,9)").dueAll("reigns(999999,2) 30 reigns(999999,1) 0");
        Check.under("Terms, REIGNS, ahead of each COUNT; from then on");
        // X is 12345 at first: number 0 swings by 0 ahead of the count that comes.
        new Calls().run("lane(18) one(0,0,9) one(0,1,9) counts(1)").dueAll("sound(1) 1 reigns(0,1) 0 reigns(0,60) 0 entry() 0");
        new Calls().run("lane(4) one(0,1,9) one(0,0,9) one(0,0,0) one(0,0,1)").dueAll("reigns(999999,2) 22");
        Check.under("Terms, REIGNS, cut; what is left over");
        // X is 193 times 1048576 less 1: number 0 swings by 2. X is 1605 times 1048576: number 4 swings by 5.
        new Calls().run("lane(4) one(0,0,9) one(0,1,9) counts(1)").due("reigns(899870,1)", 8);
        new Calls().run("lane(4) one(0,1,9) one(0,0,0) one(0,0,0) one(0,0,0) one(0,0,0) counts(1)").due("reigns(501379,1)", 11);
        // X is 2147483648 less 1171: number 0 swings by 7. X is 2208, by so little it is above: number 0 swings by 0.
        new Calls().run("lane(4) one(0,0,9) one(0,1,9) counts(1)").dueAll("reigns(518020,1) 13 reigns(388515,1) 0");
        Check.under("Terms, REIGNS, COUNTS go beyond 9999");
        Calls.late().dueAll("reigns(0,1) 0 reigns(0,2) 8 reigns(0,3) 8 reigns(0,60) 47 reigns(999999,2) 0 reigns(999999,3) 3")
                .dueAll("reigns(999999,60) 28 count(3) 9999 of(2,2) 9");
    }
}
