/** "Terms": UNDO, IMAGES, STATUS, THE FRACTION, what is refused; each sentence at its edges. */
public final class UndoToStatusTest {
    private static final int BAD = 0, NO = 1, FULL = 2;

    public static void main(String[] args) {
        undoOfEach();
        undoKeepsAllElse();
        undoOfEight();
        undoOfNone();
        images();
        imagesKeepWhatMayBeUndone();
        imagesKeepNotAll();
        fraction();
        status();
        refusedInOrder();
        noRefusals();
        Check.end();
    }

    private static void undoOfEach() {
        Check.under("Terms, UNDO, of COUNTS gone by");
        Calls x = new Calls().run("lane(4) one(0,0,9) one(0,1,9) aunt(0,0) aunt(0,1)");
        x.dueAll("counts(2) 11 counts(1) 5 counts(98) 1 count(3) 101 undo() 3 count(3) 3 count(4) 5 undo() 2 count(4) 11")
                .dueAll("undo() 0 count(3) 0 count(4) 0 undo() -3 count(3) 0");
        Check.under("Terms, UNDO, of SWING");
        x.dueAll("counts(1) 0 swings(0,0) 9 swings(1,5) 9 swings(0,7) 0 undo() 1 of(0,2) 0 of(1,2) 5 undo() 1 of(1,2) 9 of(0,2) 0")
                .dueAll("undo() 1 of(0,2) 9 of(1,2) 9 count(9) 1");
        Check.under("Terms, UNDO, of an AUNT sent, called");
        x.dueAll("sends(0,0) 1 sends(1,0) 1 sends(0,1) 0 undo() 1 about(0,2) 0 about(1,2) 0 undo() 1 about(1,2) 1 about(0,2) 0")
                .dueAll("undo() 1 about(0,2) 1 about(1,2) 1 undo() 0 undo() -3");
        Check.under("Terms, UNDO, who is there and SWINGS of all");
        x = Calls.full().run("wide(5)");
        for (int i = 0; i < 7; i++) {
            x.run("swings(" + i + "," + (i < 4 ? 9 - i : 9 - i + 1) + ")");
        }
        x.run("sends(3,0)").due("count(9)", 8);
        int[] swing = {0, 1, 2, 3, 5, 4, 3};
        x.dueAll("about(3,2) 0 undo() 5 about(3,2) 1");
        for (int i = 6; i >= 0; i--) {
            x.due("undo()", 5).due("of(" + i + ",2)", swing[i]);
        }
        x.due("undo()", -3);
        Check.under("Terms, UNDO, NOISE as loud as it gets");
        x = new Calls().run("lane(4) one(5,0,9) one(5,1,9) one(5,0,9) one(5,1,9) one(5,0,9) one(5,1,9) one(5,0,9) aunt(2,0)");
        x.run("sends(0,0) counts(6) counts(4) swings(6,0) sends(0,1) counts(1)").dueAll("count(4) 134 count(3) 11");
        x.dueAll("undo() 10 count(4) 268 undo() 10 about(0,2) 0 undo() 10 of(6,2) 9 count(4) 268 undo() 6 count(4) 267 undo() 0")
                .dueAll("count(4) 0 undo() 0 about(0,2) 1 undo() -3");
        Check.under("Terms, UNDO, what was undone may be done anew");
        x = new Calls().run("lane(4) one(0,0,9) one(0,1,9)");
        x.dueAll("counts(3) 7 undo() 0 counts(2) 15 count(9) 1 swings(0,1) 9 undo() 2 undo() 0 count(4) 0 undo() -3");
    }

    private static void undoKeepsAllElse() {
        Check.under("Terms, UNDO, only SWINGS, who is there, NOISE, the COUNT");
        Calls x = new Calls().run("lane(4) one(0,0,9) one(0,1,9) aunt(0,0) heard(1,1) note(0,1,1,1) mark(0,1,1,1) image(0)");
        x.run("counts(2) heard(2,0) note(1,1,1,1) mark(0,2,2,2) type(97) slips(1,5) image(1)");
        x.dueAll("undo() 0 count(6) 2 count(7) 2 count(8) 2 count(10) 1 part(0) 1 part(1) 1 count(5) 4 count(0) 2 count(1) 1")
                .dueAll("from(1) 1 count(3) 2 count(9) 1 undo() 0 from(0) 1 count(6) 1 undo() -3");
    }

    private static void undoOfEight() {
        Check.under("Terms, UNDO, 8 at most");
        Calls x = new Calls().run("lane(10) one(0,0,0)");
        for (int a = 1; a <= 9; a++) {
            x.due("swings(0," + a + ")", a - 1).due("count(9)", Math.min(a, 8));
        }
        for (int a = 8; a >= 1; a--) {
            x.due("undo()", 0).due("of(0,2)", a).due("count(9)", a - 1);
        }
        x.dueAll("undo() -3 of(0,2) 1 count(9) 0 status(1) 1");
        x = new Calls().run("lane(4) one(0,0,9) one(0,1,9)");
        for (int k = 1; k <= 20; k++) {
            x.run("counts(1)").due("count(9)", Math.min(k, 8));
        }
        for (int k = 19; k >= 12; k--) {
            x.due("undo()", k).due("count(4)", k % 4 == 2 ? 15 : k % 4 == 3 ? 7 : k % 4 == 0 ? 3 : 1);
        }
        x.dueAll("undo() -3 count(3) 12");
    }

    private static void undoOfNone() {
        Check.under("Terms, UNDO, behind a WIDTH told, one, an AUNT that comes none may be");
        Calls.some().dueAll("count(9) 3 wide(10) 10 count(9) 0 undo() -3 count(3) 2 of(0,2) 7 about(1,2) 0");
        Calls.some().dueAll("one(0,0,0) 3 count(9) 0 undo() -3 count(0) 4");
        Calls.some().dueAll("aunt(0,0) 2 count(9) 0 undo() -3 count(1) 3");
        Calls.some().dueAll("lane(10) 3 count(9) 0 undo() -3");
        Calls.some().dueAll("read() 3 count(9) 0 undo() -3 count(3) 2");
        Calls.some().dueAll("wide(10) 10 swings(0,1) 7 count(9) 1 undo() 2 of(0,2) 7 undo() -3");
        Check.under("Terms, UNDO, what is refused, heard, noted, marked, typed, kept leaves it");
        Calls x = Calls.some().run("wide(3) one(0,0,10) aunt(6,0) counts(0) swings(0,7) sends(0,1)");
        x.run("heard(0,0) note(0,0,0,0) mark(0,0,0,0) forget(0) forget(1) forget(2) type(97) clear() read() image(0) slips(0,0)");
        x.dueAll("count(9) 3 undo() 2 about(1,2) 1 undo() 2 of(0,2) 9 undo() 0 undo() -3");
        x = Calls.full().run("one(0,0,0) aunt(0,0)").due("count(9)", 8);
        x.dueAll("undo() 5 of(3,2) 6 undo() 4 count(3) 4");
    }

    private static void images() {
        Check.under("Terms, IMAGES 0, 1");
        Calls x = new Calls().run("lane(5) image(0) lane(6) image(1) lane(7)");
        x.dueAll("from(0) 1 count(5) 5 from(1) 1 count(5) 6 from(1) 1 count(5) 6 from(0) 1 count(5) 5");
        x.run("lane(8) image(0) lane(9)").dueAll("from(1) 1 count(5) 6 from(0) 1 count(5) 8 from(0) 1 count(5) 8");
        Check.under("Terms, IMAGES keep all as it was, whatever comes behind");
        for (String change : new String[] {"swings(0,1)", "sends(0,0)", "counts(9)", "undo()", "wide(4)", "one(0,0,0)", "aunt(0,0)",
            "heard(0,0)", "note(0,0,0,0)", "mark(0,0,0,0)", "forget(0)", "forget(1)", "forget(2)", "lane(4)", "read()", "from(1)"}) {
            Calls kept = Calls.some().run("image(0)");
            String want = Calls.some().run("image(0)").all();
            Check.same("from(0) behind " + change, kept.run(change + " from(0)").all(), want);
            kept = Calls.some().run("image(0) " + change + " from(0) " + change + " from(0)");
            Check.same("from(0) again behind " + change, kept.all(), want);
        }
        String want = Calls.some().run("image(0)").all();
        Calls other = Calls.some().run("image(0) forget(0) forget(1) forget(2) heard(7,0) heard(8,1) note(1,9,9,9) note(1,8,8,8)");
        other.run("mark(1,1,1,1) mark(1,2,2,2) undo() undo() undo() counts(7) swings(2,1) swings(1,1) sends(1,0) from(0)");
        Check.same("from(0) behind others in their place", other.all(), want);
        other = Calls.some().run("image(0) lane(4) one(5,1,1) one(2,0,2) one(3,0,3) aunt(5,1) aunt(4,0) heard(7,0) heard(8,1)");
        other.run("note(1,9,9,9) note(1,8,8,8) mark(1,1,1,1) mark(1,2,2,2) counts(7) swings(2,1) swings(1,1) from(0)");
        Check.same("from(0) behind another lane", other.all(), want);
        Check.under("Terms, IMAGES, it goes on from one");
        Calls.some().run("image(0) lane(4) from(0)").dueAll("swings(0,1) 7 count(9) 4 one(0,0,3) 3 aunt(5,0) 2 heard(0,0) 3 counts(2) 1")
                .dueAll("count(3) 4 from(0) 1 count(3) 2 count(0) 3 count(1) 2 count(6) 2 of(0,2) 7");
    }

    private static void imagesKeepWhatMayBeUndone() {
        Check.under("Terms, IMAGES, what may be undone they keep");
        Calls x = new Calls().run("lane(4) one(0,0,9) one(0,1,9) counts(2) swings(0,5) image(0)");
        x.dueAll("undo() 2 undo() 0 undo() -3 from(0) 1 count(9) 2 undo() 2 of(0,2) 9 undo() 0 count(4) 0 undo() -3");
        x.dueAll("from(0) 1 wide(9) 4 count(9) 0 from(0) 1 count(9) 2 count(5) 4 undo() 2");
        x = new Calls().run("lane(4) one(0,0,9) image(0) swings(0,1) swings(0,2) swings(0,3) image(1)");
        x.dueAll("from(0) 1 count(9) 0 undo() -3 of(0,2) 9 from(1) 1 count(9) 3 undo() 0 of(0,2) 2 undo() 0 of(0,2) 1 undo() 0");
        x = Calls.full().run("image(0)");
        for (int a = 0; a < 9; a++) {
            x.run("swings(6," + a + ")");
        }
        x.run("from(0)").due("count(9)", 8);
        for (int k = 3; k >= 0; k--) {
            x.due("undo()", k + 2).due("of(" + k + ",2)", 9 - k).due("undo()", k == 0 ? 0 : k + 1);
        }
        x.due("undo()", -3);
    }

    private static void imagesKeepNotAll() {
        Check.under("Terms, IMAGES, all but THE TEXT, THE FRACTION, STATUS, themselves");
        Calls x = Calls.some().run("image(0) sound(100) undo() from(1)").type("x").run("slips(0,0)");
        x.dueAll("from(0) 1 count(9) 3 count(10) 27 part(0) 0 part(1) 1 status(0) 1 read() -36 clear() 27 from(0) 1 count(10) 0");
        x.dueAll("from(1) 1 count(0) 1 from(0) 1 count(0) 3 status(0) 1 status(1) 0");
        Calls.empty().run("image(1)").dueAll("lane(4) 0 from(0) -3 from(1) 1 count(5) 12 status(1) 1");
        Calls.empty().run("image(0)").dueAll("lane(4) 0 from(1) -3 from(0) 1 count(5) 12 status(1) 1");
    }

    private static void fraction() {
        Check.under("THE FRACTION, 0 by 1 at first; lowest terms, below above 0");
        Calls x = new Calls().dueAll("part(0) 0 part(1) 1 slips(0,5) 1 part(0) 0 part(1) 1");
        x.run("lane(18) one(0,0,9) one(0,1,9) aunt(0,0) aunt(0,1)");
        x.dueAll("slips(1,4) 1 part(0) 4 part(1) 25 slips(1,10) 1 part(0) 1 part(1) 1 slips(1,0) 1 part(0) 0 part(1) 1")
                .dueAll("slips(1,5) 1 part(0) 1 part(1) 4 slips(1,7) 1 part(0) 49 part(1) 100 slips(2,7) 1 part(0) 0 part(1) 1");
        Check.under("THE FRACTION stays through all but slips");
        x.run("slips(1,7) lane(4) one(0,0,9) wide(9) counts(3) undo() image(0) from(0) clear()").type("lane 4;");
        x.dueAll("read() 1 part(0) 49 part(1) 100 slips(100,0) -2 slips(0,11) -2 part(0) 49 part(1) 100");
    }

    private static void status() {
        Check.under("Terms, STATUS, how many calls were refused as BAD, NO, FULL");
        Calls x = new Calls().dueAll("status(0) 0 status(1) 0 status(2) 0 status(3) -1 status(-1) -1 status(0) 2 status(1) 0 status(2) 0");
        for (int k = 1; k <= 100; k++) {
            x.run("undo()").due("status(1)", k);
        }
        x.dueAll("leans(0,0,0) -1000 marry(0) -10 game(0,0,0,0) -10 count(11) -2 status(0) 6 status(1) 100 status(2) 0");
        x.run("one(0,0,0) one(0,0,0) one(0,0,0) one(0,0,0) one(0,0,0) one(0,0,0) one(0,0,0)").due("status(2)", 0);
        x.dueAll("one(0,0,0) -4 status(2) 1 one(0,0,0) -4 status(2) 2 one(0,0,10) -2 status(2) 2 status(0) 7");
        Check.under("Terms, STATUS stays through all");
        x.run("image(0) lane(4) from(0) clear()").type("lane 4;").run("read()");
        x.dueAll("status(0) 7 status(1) 100 status(2) 2");
    }

    private static void refusedInOrder() {
        Check.under("Refused, the first of BAD, NO, FULL");
        for (String call : new String[] {"one(6,0,0)", "aunt(0,2)", "type(128)", "heard(100,0)", "note(0,0,0,21)", "mark(0,0,0,21)"}) {
            Calls.refused(Calls::full, call, -2, BAD);
        }
        for (String call : new String[] {"one(5,1,9)", "aunt(5,1)", "type(127)", "heard(99,1)", "note(6,9,99,20)", "mark(3,-20,99,-20)"}) {
            Calls.refused(Calls::full, call, -4, FULL);
        }
        Calls.refused(Calls::empty, "from(2)", -2, BAD);
        Calls.refused(Calls::empty, "from(-1)", -2, BAD);
        Calls.refused(Calls::empty, "swings(0,0)", -2, BAD);
        Calls.refused(Calls::empty, "sends(0,1)", -2, BAD);
        Calls.refused(Calls::full, "swings(6,3)", -3, NO);
        Calls.refused(Calls::full, "sends(0,1)", -3, NO);
        Calls.refused(() -> Calls.full().run("wide(9)"), "undo()", -3, NO);
    }

    private static void noRefusals() {
        Check.under("NONE, 0, a FAULT, not so many are answers: no refusals");
        for (String call : new String[] {"entry() -1", "widest() -1", "hear() -1", "still(60) 0", "lanes() 0", "read() -10", "clear() 0",
            "forget(1) 0", "marry(-1) 0", "push(0,1) -1", "marry(0) -1", "game(0,0,1,1) -5", "look(0) -1", "is(0) 0", "wrong(1) 0"}) {
            int cut = call.indexOf(' ');
            Calls.taken(() -> new Calls().run("one(0,0,9) aunt(0,0) heard(0,1)" + (call.startsWith("look") || call.startsWith("is")
                    ? " note(0,0,0,20)" : "")), call.substring(0, cut), Long.parseLong(call.substring(cut + 1)));
        }
        Calls.taken(() -> new Calls().run("lane(4) one(0,0,9) one(0,1,9)"), "still(60)", -1);
        Calls.taken(() -> new Calls().run("aunt(0,0) mark(0,0,0,20)"), "ask(0)", -1);
    }
}
