/**
 * Promises 1 to 43, each at its bounds: the last number that is taken and the first that is not, on both sides;
 * with nobody there and with all full; what is refused changes nothing but STATUS.
 */
public final class BoundsTest {
    private static final int BAD = 0, NO = 1, FULL = 2;
    private static final String LEAST = "-2147483648", MOST = "2147483647";

    public static void main(String[] args) {
        promise1NewObject();
        promise2Lane();
        promise3Wide();
        promise4One();
        promise5Aunt();
        promise6Type();
        promise7Clear();
        promise8Read();
        promise9Counts();
        promise10Swings();
        promise11Sends();
        promise12Undo();
        promise13Of();
        promise14About();
        promise15Leans();
        promise16Sound();
        promise17Entry();
        promise18Then();
        promise19Still();
        promise20Push();
        promise21Widest();
        promise22Wrong();
        promise23Marry();
        promise24Heard();
        promise25Lanes();
        promise26Swung();
        promise27Hear();
        promise28Note();
        promise29Mark();
        promise30Forget();
        promise31Is();
        promise32Look();
        promise33Kinds();
        promise34Ask();
        promise35Game();
        promise36Slips();
        promise37Reigns();
        promise38Part();
        promise39Image();
        promise40From();
        promise41Status();
        promise42Count();
        promise43Digest();
        severalWrongAtOnce();
        numbersOfNobody();
        theHousesOfTheseTests();
        Check.end();
    }

    /** Each number of the call, one after the other, far below and far above what is told. */
    private static void badFarOff(String name, long answer, int... taken) {
        for (int k = 0; k < taken.length; k++) {
            for (String far : new String[] {LEAST, MOST}) {
                StringBuilder call = new StringBuilder(name).append('(');
                for (int n = 0; n < taken.length; n++) {
                    call.append(n == 0 ? "" : ",").append(n == k ? far : Integer.toString(taken[n]));
                }
                Calls.bad(call.append(')').toString(), answer);
            }
        }
    }

    private static void promise1NewObject() {
        Check.under("Promise 1, a new object");
        new Calls().dueAll("count(0) 0 count(1) 0 count(2) 0 count(3) 0 count(4) 0 count(5) 12 count(6) 0 count(7) 0")
                .dueAll("count(8) 0 count(9) 0 count(10) 0 status(0) 0 status(1) 0 status(2) 0 part(0) 0 part(1) 1")
                .dueAll("of(0,0) -2 about(0,0) -2 undo() -3 from(0) -3 from(1) -3 read() -10");
    }

    private static void promise2Lane() {
        Check.under("Promise 2, lane");
        Calls.bad("lane(3) lane(31) lane(0) lane(-1) lane(-4)");
        badFarOff("lane", -2, 4);
        Calls.taken(Calls::empty, "lane(4)", 0).due("count(5)", 4);
        Calls.taken(Calls::some, "lane(30)", 3).due("count(5)", 30);
        Calls.taken(Calls::full, "lane(4)", 7)
                .dueAll("count(0) 0 count(1) 0 count(2) 0 count(3) 0 count(4) 0 count(5) 4 count(6) 0 count(7) 0")
                .dueAll("count(8) 0 count(9) 0 count(10) 150 part(0) 51 part(1) 100 lanes() 134217727 from(0) 1")
                .dueAll("count(0) 1 of(0,2) 2 from(1) 1 of(0,2) 3 read() 15");
    }

    private static void promise3Wide() {
        Check.under("Promise 3, wide");
        Calls.bad("wide(3) wide(31) wide(0) wide(-1) wide(-4)");
        badFarOff("wide", -2, 4);
        Calls.taken(Calls::empty, "wide(4)", 12).due("count(5)", 4);
        Calls.taken(Calls::some, "wide(30)", 10)
                .dueAll("count(0) 3 count(1) 2 count(2) 1 count(3) 2 count(4) 4 count(5) 30 count(6) 2 count(7) 2")
                .dueAll("count(8) 2 count(9) 0 count(10) 26 part(0) 1 part(1) 2 of(0,2) 7 about(1,2) 0 wide(4) 30");
    }

    private static void promise4One() {
        Check.under("Promise 4, one");
        Calls.bad("one(-1,0,0) one(6,0,0) one(0,-1,0) one(0,2,0) one(0,0,-1) one(0,0,10)");
        badFarOff("one", -2, 0, 0, 0);
        Calls.taken(Calls::empty, "one(0,0,0)", 0).dueAll("of(0,0) 0 of(0,1) 0 of(0,2) 0");
        Calls.taken(Calls::some, "one(5,1,9)", 3).dueAll("of(3,0) 5 of(3,1) 1 of(3,2) 9 count(9) 0");
        new Calls().dueAll("one(0,0,0) 0 one(0,0,0) 1 one(0,0,0) 2 one(0,0,0) 3 one(0,0,0) 4 one(0,0,0) 5 one(5,1,9) 6")
                .dueAll("one(5,1,9) -4 count(0) 7 of(6,0) 5");
        Calls.refused(Calls::full, "one(0,0,0)", -4, FULL);
        Calls.refused(Calls::full, "one(5,1,9)", -4, FULL);
    }

    private static void promise5Aunt() {
        Check.under("Promise 5, aunt");
        Calls.bad("aunt(-1,0) aunt(6,0) aunt(0,-1) aunt(0,2)");
        badFarOff("aunt", -2, 0, 0);
        Calls.taken(Calls::empty, "aunt(0,0)", 0).dueAll("about(0,0) 0 about(0,1) 0 about(0,2) 1");
        Calls.taken(Calls::some, "aunt(5,1)", 2).dueAll("about(2,0) 5 about(2,1) 1 about(2,2) 1 count(9) 0");
        new Calls().dueAll("aunt(0,0) 0 aunt(0,0) 1 aunt(0,0) 2 aunt(5,1) 3 aunt(5,1) -4 count(1) 4 about(3,0) 5");
        Calls.refused(Calls::full, "aunt(0,0)", -4, FULL);
        Calls.refused(Calls::full, "aunt(5,1)", -4, FULL);
    }

    private static void promise6Type() {
        Check.under("Promise 6, type");
        Calls.bad("type(-1) type(128) type(-128) type(255)");
        badFarOff("type", -2, 0);
        Calls.taken(Calls::empty, "type(0)", 1);
        Calls.taken(Calls::some, "type(127)", 27);
        Calls.taken(() -> new Calls().type("x".repeat(149)), "type(59)", 150).dueAll("type(59) -4 count(10) 150");
        Calls.refused(Calls::full, "type(0)", -4, FULL);
        Calls.refused(Calls::full, "type(127)", -4, FULL);
    }

    private static void promise7Clear() {
        Check.under("Promise 7, clear");
        Calls.taken(Calls::empty, "clear()", 0).due("count(10)", 0);
        Calls.taken(Calls::some, "clear()", 26).dueAll("count(10) 0 count(0) 3 read() -10");
        Calls.taken(Calls::full, "clear()", 150).dueAll("count(10) 0 clear() 0 type(32) 1 count(10) 1 read() -11");
    }

    private static void promise8Read() {
        Check.under("Promise 8, read");
        Calls.told(Calls::empty, "read()", -10);
        Calls.taken(Calls::some, "read()", 3).dueAll("count(0) 1 count(5) 5 count(3) 2 count(10) 26 read() 3");
        Calls.taken(Calls::full, "read()", 15).dueAll("count(0) 0 count(5) 4 count(3) 1386 count(10) 150 read() 15");
        Calls.told(() -> Calls.some().type("x"), "read()", -36);
        Calls.told(() -> Calls.full().run("clear()").type("lane 4;one 0 0 9;counts 9"), "read()", -35);
    }

    private static Calls at9998() {
        Calls x = new Calls().run("lane(10) one(0,0,9) one(0,1,5) counts(98)");
        for (int k = 0; k < 100; k++) {
            x.run("counts(99)");
        }
        return x;
    }

    private static void promise9Counts() {
        Check.under("Promise 9, counts");
        Calls.bad("counts(0) counts(100) counts(-1) counts(-99)");
        badFarOff("counts", -2, 1);
        Calls.taken(Calls::some, "counts(1)", 2).dueAll("count(3) 3 count(4) 2 count(9) 4");
        Calls.taken(Calls::some, "counts(99)", 0).dueAll("count(3) 101 count(4) 0 count(9) 4 undo() 2 count(4) 4");
        Calls.taken(BoundsTest::at9998, "counts(1)", 2).dueAll("count(3) 9999 undo() 9998 count(4) 5");
        Calls.taken(BoundsTest::at9998, "counts(99)", 2).dueAll("count(3) 9999 undo() 9998 count(3) 9998 count(4) 5");
        Calls.taken(BoundsTest::at9998, "counts(2)", 2).dueAll("count(3) 9999");
        Calls.taken(Calls::late, "counts(1)", 3).dueAll("count(3) 9999 count(4) 3 count(9) 8");
        Calls.taken(() -> Calls.late().run("wide(10)"), "counts(99)", 3)
                .dueAll("count(3) 9999 count(4) 3 count(9) 1 counts(1) 3 count(9) 2 undo() 9999 undo() 9999 undo() -3");
    }

    private static void promise10Swings() {
        Check.under("Promise 10, swings");
        Calls.bad("swings(-1,0) swings(7,0) swings(0,-1) swings(0,10)");
        badFarOff("swings", -2, 0, 0);
        Calls.refused(Calls::some, "swings(3,0)", -2, BAD);
        Calls.taken(Calls::some, "swings(2,0)", 5).dueAll("of(2,2) 0 count(9) 4 undo() 2 of(2,2) 5");
        Calls.taken(Calls::full, "swings(6,9)", 3).dueAll("of(6,2) 9 count(9) 8");
        Calls.refused(Calls::some, "swings(0,7)", -3, NO);
        Calls.refused(Calls::full, "swings(0,0)", -3, NO);
        Calls.refused(() -> new Calls().run("one(0,0,9)"), "swings(0,9)", -3, NO);
    }

    private static void promise11Sends() {
        Check.under("Promise 11, sends");
        Calls.bad("sends(-1,0) sends(4,0) sends(0,-1) sends(0,2)");
        badFarOff("sends", -2, 0, 0);
        Calls.refused(Calls::some, "sends(2,0)", -2, BAD);
        Calls.taken(Calls::some, "sends(1,1)", 0).dueAll("about(1,2) 1 count(2) 2 count(9) 4 undo() 2 about(1,2) 0");
        Calls.taken(Calls::full, "sends(3,0)", 1).dueAll("about(3,2) 0 count(2) 3 count(9) 8");
        Calls.refused(Calls::some, "sends(0,1)", -3, NO);
        Calls.refused(Calls::some, "sends(1,0)", -3, NO);
        Calls.refused(Calls::full, "sends(3,1)", -3, NO);
    }

    private static void promise12Undo() {
        Check.under("Promise 12, undo");
        Calls.refused(Calls::empty, "undo()", -3, NO);
        Calls.refused(() -> Calls.some().run("undo() undo() undo()"), "undo()", -3, NO);
        Calls.refused(() -> Calls.full().run("wide(10)"), "undo()", -3, NO);
        Calls.taken(Calls::some, "undo()", 2).due("count(9)", 2);
        Calls.taken(Calls::full, "undo()", 5).due("count(9)", 7);
    }

    private static void promise13Of() {
        Check.under("Promise 13, of");
        Calls.bad("of(-1,0) of(7,0) of(0,-1) of(0,3)");
        badFarOff("of", -2, 0, 0);
        Calls.refused(Calls::empty, "of(0,0)", -2, BAD);
        Calls.refused(Calls::some, "of(3,0)", -2, BAD);
        Calls.told(Calls::some, "of(0,0)", 0);
        Calls.told(Calls::some, "of(2,0)", 1);
        Calls.told(Calls::some, "of(2,1)", 1);
        Calls.told(Calls::full, "of(6,2)", 3);
    }

    private static void promise14About() {
        Check.under("Promise 14, about");
        Calls.bad("about(-1,0) about(4,0) about(0,-1) about(0,3)");
        badFarOff("about", -2, 0, 0);
        Calls.refused(Calls::empty, "about(0,0)", -2, BAD);
        Calls.refused(Calls::some, "about(2,0)", -2, BAD);
        Calls.told(Calls::some, "about(0,2)", 1);
        Calls.told(Calls::some, "about(1,2)", 0);
        Calls.told(Calls::full, "about(3,0)", 4);
        Calls.told(Calls::full, "about(3,1)", 1);
    }

    private static void promise15Leans() {
        Check.under("Promise 15, leans");
        Calls.bad("leans(-1,0,0) leans(7,0,0) leans(0,-1,0) leans(0,100,0) leans(0,0,-1) leans(0,0,2)", -1000);
        badFarOff("leans", -1000, 0, 0, 0);
        Calls.refused(Calls::empty, "leans(0,0,0)", -1000, BAD);
        Calls.refused(Calls::some, "leans(3,0,0)", -1000, BAD);
        Calls.told(Calls::some, "leans(1,0,0)", 9);
        Calls.told(Calls::some, "leans(0,1,1)", 5);
        Calls.told(Calls::some, "leans(2,99,0)", -5);
        Calls.told(Calls::some, "leans(1,2,1)", -8);
        Calls.told(Calls::full, "leans(6,97,0)", 3);
    }

    private static void promise16Sound() {
        Check.under("Promise 16, sound");
        Calls.bad("sound(-1) sound(100)");
        badFarOff("sound", -2, 0);
        Calls.told(Calls::empty, "sound(0)", 0);
        Calls.told(Calls::some, "sound(97)", 2);
        Calls.told(Calls::some, "sound(99)", 0);
        Calls.told(() -> new Calls().run("lane(4) one(4,0,1) one(4,1,1)"), "sound(0)", 1);
    }

    private static void promise17Entry() {
        Check.under("Promise 17, entry");
        Calls.told(Calls::empty, "entry()", -1);
        Calls.told(Calls::some, "entry()", 3);
        Calls.told(() -> Calls.some().run("counts(3)"), "entry()", 0);
        Calls.told(() -> Calls.some().run("counts(4)"), "entry()", 3);
        Calls.told(Calls::late, "entry()", 1);
    }

    private static void promise18Then() {
        Check.under("Promise 18, then");
        Calls.bad("then(-1) then(61)");
        badFarOff("then", -2, 0);
        Calls.told(Calls::empty, "then(0)", 0);
        Calls.told(Calls::empty, "then(60)", 0);
        Calls.told(Calls::some, "then(0)", 4);
        Calls.told(Calls::some, "then(1)", 2);
        Calls.told(Calls::some, "then(60)", 2);
        Calls.told(Calls::late, "then(1)", 1);
        Calls.told(Calls::late, "then(2)", 8);
    }

    private static void promise19Still() {
        Check.under("Promise 19, still");
        Calls.bad("still(0) still(61) still(-1)");
        badFarOff("still", -2, 1);
        Calls.told(Calls::empty, "still(60)", 0);
        Calls.told(Calls::some, "still(1)", 0);
        Calls.told(Calls::some, "still(3)", 0);
        Calls.told(Calls::some, "still(4)", -1);
        Calls.told(Calls::some, "still(60)", -1);
        Calls.told(Calls::late, "still(1)", 0);
        Calls.told(Calls::late, "still(2)", -1);
    }

    private static void promise20Push() {
        Check.under("Promise 20, push");
        Calls.bad("push(-1,0) push(7,0) push(0,-1) push(0,100)");
        badFarOff("push", -2, 0, 0);
        Calls.refused(Calls::empty, "push(0,0)", -2, BAD);
        Calls.refused(Calls::some, "push(3,0)", -2, BAD);
        Calls.told(Calls::some, "push(0,0)", -1);
        Calls.told(Calls::some, "push(0,97)", 6);
        Calls.told(Calls::some, "push(0,99)", -1);
        Calls.told(Calls::some, "push(1,1)", 0);
        Calls.told(Calls::some, "push(2,1)", 4);
        Calls.told(() -> Calls.some().run("wide(15)"), "push(2,1)", 9);
        Calls.told(() -> Calls.some().run("wide(16)"), "push(2,1)", -1);
    }

    private static void promise21Widest() {
        Check.under("Promise 21, widest");
        Calls.told(Calls::empty, "widest()", -1);
        Calls.told(Calls::some, "widest()", 11);
        Calls.told(() -> Calls.some().run("wide(30)"), "widest()", 11);
        Calls.told(Calls::late, "widest()", 17);
    }

    private static void promise22Wrong() {
        Check.under("Promise 22, wrong");
        Calls.bad("wrong(-1) wrong(100)");
        badFarOff("wrong", -2, 0);
        Calls.told(Calls::empty, "wrong(0)", 0);
        Calls.told(Calls::some, "wrong(0)", 0);
        Calls.told(Calls::some, "wrong(97)", 5);
        Calls.told(Calls::some, "wrong(99)", 0);
        Calls.told(() -> new Calls().run("lane(4) one(4,0,1) one(4,1,1)"), "wrong(0)", 3);
    }

    private static void promise23Marry() {
        Check.under("Promise 23, marry");
        Calls.bad("marry(-2) marry(7)", -10);
        badFarOff("marry", -10, -1);
        Calls.refused(Calls::empty, "marry(0)", -10, BAD);
        Calls.refused(Calls::some, "marry(3)", -10, BAD);
        Calls.told(Calls::empty, "marry(-1)", 0);
        Calls.told(Calls::some, "marry(-1)", 1);
        Calls.told(Calls::some, "marry(0)", 2);
        Calls.told(Calls::some, "marry(1)", -1);
        Calls.told(Calls::some, "marry(2)", 0);
        Calls.told(Calls::full, "marry(6)", 1);
    }

    private static void promise24Heard() {
        Check.under("Promise 24, heard");
        Calls.bad("heard(-1,0) heard(100,0) heard(0,-1) heard(0,2)");
        badFarOff("heard", -2, 0, 0);
        Calls.taken(Calls::empty, "heard(0,0)", 1);
        Calls.taken(Calls::some, "heard(99,1)", 3).dueAll("count(6) 3 count(9) 3");
        new Calls().dueAll("heard(0,0) 1 heard(0,0) 2 heard(0,0) 3 heard(0,0) 4 heard(0,0) 5 heard(0,0) 6 heard(0,0) -4");
        Calls.refused(Calls::full, "heard(0,0)", -4, FULL);
        Calls.refused(Calls::full, "heard(99,1)", -4, FULL);
    }

    private static void promise25Lanes() {
        Check.under("Promise 25, lanes");
        Calls.told(Calls::empty, "lanes()", 134217727);
        Calls.told(Calls::some, "lanes()", 255);
        Calls.told(() -> new Calls().run("heard(0,1)"), "lanes()", 0);
    }

    private static void promise26Swung() {
        Check.under("Promise 26, swung");
        Calls.bad("swung(-1) swung(7)");
        badFarOff("swung", -2, 0);
        Calls.refused(Calls::empty, "swung(0)", -2, BAD);
        Calls.refused(Calls::some, "swung(3)", -2, BAD);
        Calls.told(Calls::some, "swung(0)", 960);
        Calls.told(Calls::some, "swung(1)", 1023);
        Calls.told(Calls::some, "swung(2)", 1008);
    }

    private static void promise27Hear() {
        Check.under("Promise 27, hear");
        Calls.told(Calls::empty, "hear()", 0);
        Calls.told(Calls::some, "hear()", 0);
        Calls.told(() -> Calls.some().run("forget(0)"), "hear()", 1);
        Calls.told(() -> Calls.some().run("heard(99,1)"), "hear()", -1);
    }

    private static void promise28Note() {
        Check.under("Promise 28, note");
        Calls.bad("note(-1,0,0,0) note(7,0,0,0) note(0,-1,0,0) note(0,10,0,0) note(0,0,-1,0) note(0,0,100,0)");
        Calls.bad("note(0,0,0,-21) note(0,0,0,21)");
        badFarOff("note", -2, 0, 0, 0, 0);
        Calls.refused(Calls::empty, "note(0,0,0,0)", -2, BAD);
        Calls.refused(Calls::some, "note(3,0,0,0)", -2, BAD);
        Calls.taken(Calls::some, "note(0,0,0,-20)", 3);
        Calls.taken(Calls::some, "note(2,9,99,20)", 3).dueAll("count(7) 3 count(9) 3 note(1,0,0,0) 4");
        Calls.refused(Calls::full, "note(0,0,0,-20)", -4, FULL);
        Calls.refused(Calls::full, "note(6,9,99,20)", -4, FULL);
    }

    private static void promise29Mark() {
        Check.under("Promise 29, mark");
        Calls.bad("mark(-1,0,0,0) mark(4,0,0,0) mark(0,-21,0,0) mark(0,21,0,0) mark(0,0,-1,0) mark(0,0,100,0)");
        Calls.bad("mark(0,0,0,-21) mark(0,0,0,21)");
        badFarOff("mark", -2, 0, 0, 0, 0);
        Calls.refused(Calls::empty, "mark(0,0,0,0)", -2, BAD);
        Calls.refused(Calls::some, "mark(2,0,0,0)", -2, BAD);
        Calls.taken(Calls::some, "mark(0,-20,0,-20)", 3);
        Calls.taken(Calls::some, "mark(1,20,99,20)", 3).dueAll("count(8) 3 count(9) 3 mark(0,0,0,0) 4");
        Calls.refused(Calls::full, "mark(0,-20,0,-20)", -4, FULL);
        Calls.refused(Calls::full, "mark(3,20,99,20)", -4, FULL);
    }

    private static void promise30Forget() {
        Check.under("Promise 30, forget");
        Calls.bad("forget(-1) forget(3)");
        badFarOff("forget", -2, 0);
        Calls.taken(Calls::empty, "forget(0)", 0).dueAll("forget(1) 0 forget(2) 0 count(6) 0 count(7) 0 count(8) 0");
        Calls.taken(Calls::full, "forget(0)", 6).dueAll("count(6) 0 count(7) 6 count(8) 6 count(9) 8 heard(0,0) 1");
        Calls.taken(Calls::full, "forget(1)", 6).dueAll("count(6) 6 count(7) 0 count(8) 6 count(9) 8 note(0,0,0,0) 1");
        Calls.taken(Calls::full, "forget(2)", 6).dueAll("count(6) 6 count(7) 6 count(8) 0 count(9) 8 mark(0,0,0,0) 1");
    }

    private static void promise31Is() {
        Check.under("Promise 31, is");
        Calls.bad("is(-1) is(7)");
        badFarOff("is", -2, 0);
        Calls.refused(Calls::empty, "is(0)", -2, BAD);
        Calls.refused(Calls::some, "is(3)", -2, BAD);
        Calls.told(Calls::some, "is(0)", 9);
        Calls.told(Calls::some, "is(1)", 63);
        Calls.told(Calls::some, "is(2)", 35);
        Calls.told(() -> Calls.some().run("note(2,9,0,20)"), "is(2)", 0);
    }

    private static void promise32Look() {
        Check.under("Promise 32, look");
        Calls.bad("look(-1) look(7)");
        badFarOff("look", -2, 0);
        Calls.refused(Calls::empty, "look(0)", -2, BAD);
        Calls.refused(Calls::some, "look(3)", -2, BAD);
        Calls.told(Calls::some, "look(0)", 31);
        Calls.told(Calls::some, "look(1)", 12);
        Calls.told(Calls::some, "look(2)", 11);
        Calls.told(() -> Calls.some().run("note(2,9,0,20)"), "look(2)", -1);
    }

    private static void promise33Kinds() {
        Check.under("Promise 33, kinds");
        Calls.bad("kinds(-1) kinds(4)");
        badFarOff("kinds", -2, 0);
        Calls.refused(Calls::empty, "kinds(0)", -2, BAD);
        Calls.refused(Calls::some, "kinds(2)", -2, BAD);
        Calls.told(Calls::some, "kinds(0)", 3);
        Calls.told(Calls::some, "kinds(1)", 9);
        Calls.told(() -> Calls.some().run("forget(2)"), "kinds(1)", 63);
        Calls.told(() -> Calls.some().run("mark(1,20,0,-20)"), "kinds(1)", 0);
    }

    private static void promise34Ask() {
        Check.under("Promise 34, ask");
        Calls.bad("ask(-1) ask(4)");
        badFarOff("ask", -2, 0);
        Calls.refused(Calls::empty, "ask(0)", -2, BAD);
        Calls.refused(Calls::some, "ask(2)", -2, BAD);
        Calls.told(Calls::some, "ask(0)", 9);
        Calls.told(Calls::some, "ask(1)", 101);
        Calls.told(() -> Calls.some().run("mark(1,20,0,-20)"), "ask(1)", -1);
    }

    private static void promise35Game() {
        Check.under("Promise 35, game");
        Calls.bad("game(-1,0,0,0) game(7,0,0,0) game(0,-1,0,0) game(0,4,0,0) game(0,0,-1,0) game(0,0,100,0)", -10);
        Calls.bad("game(0,0,0,-2) game(0,0,0,-2147483648)", -10);
        for (String far : new String[] {LEAST, MOST}) {
            Calls.bad("game(F,0,0,0) game(0,F,0,0) game(0,0,F,0)".replace("F", far), -10);
        }
        Calls.refused(Calls::empty, "game(0,0,0,-1)", -10, BAD);
        Calls.refused(Calls::some, "game(3,0,0,0)", -10, BAD);
        Calls.refused(Calls::some, "game(0,2,0,0)", -10, BAD);
        Calls.refused(() -> new Calls().run("one(0,0,9)"), "game(0,0,0,-1)", -10, BAD);
        Calls.refused(() -> new Calls().run("aunt(0,0)"), "game(0,0,0,-1)", -10, BAD);
        Calls.told(Calls::some, "game(0,0,0,-1)", 1);
        Calls.told(Calls::some, "game(2,1,99,-1)", 1);
        Calls.told(Calls::some, "game(2,1,99,0)", 0);
        Calls.told(Calls::some, "game(2,1,99,1)", -5);
        Calls.told(Calls::some, "game(2,1,99,2147483647)", -5);
        Calls.told(Calls::full, "game(6,3,0,0)", 0);
    }

    private static void promise36Slips() {
        Check.under("Promise 36, slips");
        Calls.bad("slips(-1,0) slips(100,0) slips(0,-1) slips(0,11)");
        badFarOff("slips", -2, 0, 0);
        Calls.taken(Calls::empty, "slips(0,0)", 1).dueAll("part(0) 0 part(1) 1");
        Calls.taken(Calls::some, "slips(99,10)", 1).dueAll("part(0) 0 part(1) 1");
        Calls.taken(Calls::some, "slips(97,10)", 1).dueAll("part(0) 1 part(1) 1 count(2) 1 count(9) 3");
        Calls.taken(() -> Calls.some().run("wide(12)"), "slips(1,1)", 1).dueAll("part(0) 1 part(1) 10 count(2) 1");
    }

    private static void promise37Reigns() {
        Check.under("Promise 37, reigns");
        Calls.bad("reigns(-1,0) reigns(1000000,0) reigns(0,-1) reigns(0,61)");
        badFarOff("reigns", -2, 0, 0);
        Calls.told(Calls::empty, "reigns(0,60)", 0);
        Calls.told(Calls::some, "reigns(0,0)", 0);
        Calls.told(Calls::some, "reigns(999999,0)", 0);
    }

    private static void promise38Part() {
        Check.under("Promise 38, part");
        Calls.bad("part(-1) part(2)");
        badFarOff("part", -2, 0);
        Calls.told(Calls::empty, "part(0)", 0);
        Calls.told(Calls::empty, "part(1)", 1);
        Calls.told(Calls::some, "part(0)", 1);
        Calls.told(Calls::some, "part(1)", 2);
    }

    private static void promise39Image() {
        Check.under("Promise 39, image");
        Calls.bad("image(-1) image(2)");
        badFarOff("image", -2, 0);
        Calls.taken(Calls::empty, "image(0)", 1).dueAll("from(1) -3 from(0) 1");
        Calls.taken(Calls::empty, "image(1)", 1).dueAll("from(0) -3 from(1) 1");
        Calls.taken(Calls::full, "image(0)", 1).dueAll("lane(4) 7 from(0) 1 count(0) 7 count(9) 8 count(10) 150");
        Calls.taken(Calls::full, "image(1)", 1).dueAll("lane(4) 7 from(1) 1 count(0) 7 from(0) 1 count(0) 1");
    }

    private static void promise40From() {
        Check.under("Promise 40, from");
        Calls.bad("from(-1) from(2)");
        badFarOff("from", -2, 0);
        Calls.refused(Calls::empty, "from(0)", -3, NO);
        Calls.refused(Calls::empty, "from(1)", -3, NO);
        Calls.refused(Calls::some, "from(0)", -3, NO);
        Calls.taken(Calls::some, "from(1)", 1).dueAll("count(0) 1 count(3) 3 count(9) 2 count(10) 26 part(1) 2 from(1) 1");
        Calls.taken(Calls::full, "from(0)", 1).dueAll("count(0) 1 count(3) 3 count(9) 2 of(0,2) 2 count(10) 150");
    }

    private static void promise41Status() {
        Check.under("Promise 41, status");
        Calls.bad("status(-1) status(3)", -1);
        badFarOff("status", -1, 0);
        Calls.told(Calls::empty, "status(0)", 0);
        Calls.told(() -> Calls.some().run("sound(100) sound(100) sound(100) undo() from(0) from(0)"), "status(0)", 3);
        Calls.told(() -> Calls.some().run("sound(100) sound(100) sound(100) undo() from(0) from(0)"), "status(1)", 2);
        Calls.told(() -> Calls.full().run("one(0,0,0) aunt(0,0) type(1) heard(0,0)"), "status(2)", 4);
    }

    private static void promise42Count() {
        Check.under("Promise 42, count");
        Calls.bad("count(-1) count(11)");
        badFarOff("count", -2, 0);
        Calls.told(Calls::some, "count(0)", 3);
        Calls.told(Calls::some, "count(10)", 26);
    }

    private static void promise43Digest() {
        Check.under("Promise 43, digest");
        Calls.told(Calls::full, "digest()", digestOfFull());
    }

    /** v by v as told; it is so long that a long wraps around many times. */
    private static long digestOfFull() {
        int[] all = {7, 4, 4, 5, 1, 5, 6, 6, 6, 8, 150,
            0, 0, 0, 1, 1, 1, 2, 0, 2, 3, 1, 3, 4, 0, 5, 5, 1, 4, 0, 0, 3,
            1, 0, 1, 2, 1, 1, 3, 0, 1, 4, 1, 1,
            90, 0, 91, 1, 92, 0, 93, 1, 94, 0, 95, 1,
            0, 9, 0, 0, 1, 9, 1, 3, 2, 9, 2, 6, 3, 9, 3, 9, 4, 9, 4, 12, 5, 9, 5, 15,
            0, 0, 0, -2, 1, 1, 2, -1, 2, 2, 4, 0, 3, 3, 6, 1, 0, 4, 8, 2, 1, 5, 10, 3,
            51, 100};
        java.math.BigInteger h = java.math.BigInteger.valueOf(1559);
        for (int v : all) {
            h = h.multiply(java.math.BigInteger.valueOf(31)).add(java.math.BigInteger.valueOf(v));
        }
        return h.longValue();
    }

    private static void severalWrongAtOnce() {
        Check.under("BAD once, however many numbers are wrong");
        Calls.bad("one(-1,2,10) aunt(6,-1) swings(-1,10) sends(4,2) of(7,3) about(-1,-1) push(-1,100) heard(100,2)");
        Calls.bad("note(7,10,100,21) mark(4,21,100,21) slips(100,11) reigns(-1,61)");
        Calls.bad("leans(-1,100,2)", -1000);
        Calls.bad("game(-1,4,100,-2)", -10);
    }

    /** With 3 people and 2 aunts: all numbers that one or an aunt might have who has not come. */
    private static void numbersOfNobody() {
        Check.under("BAD, nobody of that number is there");
        for (String i : new String[] {"3", "4", "5", "6"}) {
            for (String call : "swings(I,1) of(I,0) push(I,1) swung(I) note(I,0,0,0) is(I) look(I)".split(" ")) {
                Calls.refused(Calls::some, call.replace("I", i), -2, BAD);
            }
            Calls.refused(Calls::some, "leans(" + i + ",0,0)", -1000, BAD);
            Calls.refused(Calls::some, "marry(" + i + ")", -10, BAD);
            Calls.refused(Calls::some, "game(" + i + ",0,0,-1)", -10, BAD);
        }
        for (String i : new String[] {"2", "3"}) {
            for (String call : "sends(I,0) sends(I,1) about(I,0) mark(I,0,0,0) kinds(I) ask(I)".split(" ")) {
                Calls.refused(Calls::some, call.replace("I", i), -2, BAD);
            }
            Calls.refused(Calls::some, "game(0," + i + ",0,-1)", -10, BAD);
        }
    }

    private static void theHousesOfTheseTests() {
        Check.under("the houses that these tests take");
        Calls.some().dueAll("count(0) 3 count(1) 2 count(2) 1 count(3) 2 count(4) 4 count(5) 10 count(6) 2 count(7) 2")
                .dueAll("count(8) 2 count(9) 3 count(10) 26 part(0) 1 part(1) 2 from(0) -3 from(1) 1 count(9) 2");
        Calls.full().dueAll("count(0) 7 count(1) 4 count(2) 4 count(3) 5 count(4) 1 count(5) 5 count(6) 6 count(7) 6 count(8) 6 count(9) 8")
                .dueAll("count(10) 150 part(0) 51 part(1) 100 from(0) 1 from(1) 1 status(0) 0 status(1) 0 status(2) 0");
        Calls.late().dueAll("count(3) 9999 count(4) 3 count(9) 8");
    }
}
