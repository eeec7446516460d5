/** "Terms": THE TEXT, ITEMS, TOKENS, FAULT, HOUSES that are read; each sentence at its edges. */
public final class TextTest {
    private static final String WHOLE = "lane 9;one 0 0 9;one 4 1 8;aunt 0 0;counts 2;aunt 3 1;away 1;";

    public static void main(String[] args) {
        itemsThatCanStand();
        anyByteAtEachPlace();
        cutAtEachPlace();
        words();
        tokensThatAreNoWords();
        laneOnceFirstOfAll();
        noMoreThanCanCome();
        numbersAsTold();
        auntsNotThereYet();
        threeFigures();
        blanks();
        otherFaults();
        oneHundredAndFiftyBytes();
        housesThatAreRead();
        itemsWhereTheyStand();
        Check.end();
    }

    /** So many items: the text and STATUS stay, and it can be read again. */
    private static void reads(String text, int items) {
        Calls.taken(() -> new Calls().type(text), "read()", items).due("count(10)", text.length()).due("read()", items);
    }

    /** A fault at this place: nothing is changed, STATUS neither. */
    private static void faults(String text, int place) {
        Calls.told(() -> Calls.some().run("clear()").type(text), "read()", -10 - place);
    }

    private static void itemsThatCanStand() {
        Check.under("Terms, THE HOUSES, told by ITEMS, each ended by ;");
        reads("lane 4;", 1);
        reads("lane 4;one 0 0 9;", 2);
        reads("lane 4;aunt 5 1;", 2);
        reads("lane 4;aunt 5 1;away 0;", 3);
        reads("lane 4;counts 9;", 2);
        reads("lane 4;aunt 5 1;away 0;away 0;", 4);
        reads(WHOLE, 7);
        faults("", 0);
        faults("lane 4", 6);
        faults("lane 4;counts 9", 15);
        faults("lane 4;;", 7);
        faults(";", 0);
        faults("lane 4 one 0 0 9;", 7);
        faults("lane 4 4;", 7);
        faults("lane 4;one 0 0 9 9;", 17);
        faults("lane;", 4);
        faults("lane 4;one;", 10);
        faults("lane 4;one 0;", 12);
        faults("lane 4;one 0 0;", 14);
        faults("lane 4;aunt 0;", 13);
        faults("lane 4;aunt 0 0 0;", 16);
    }

    /** Behind a beginning: where the fault is, if the one more byte is a figure, a letter, a blank, ; or another. */
    private static void anyByte(String ahead, int blank, int letter, int semicolon, int another, int... figures) {
        for (int b = 0; b <= 127; b++) {
            boolean isFigure = b >= '0' && b <= '9';
            boolean isLetter = b >= 'a' && b <= 'z';
            int want = isFigure ? figures[b - '0'] : isLetter ? letter : b == 32 ? blank : b == ';' ? semicolon : another;
            Calls x = new Calls().type(ahead).run("type(" + b + ")");
            Check.due("'" + ahead + "' and the byte " + b + ", read()", x.answer("read()"), want > 0 ? want : -10 + want);
        }
    }

    private static void anyByteAtEachPlace() {
        Check.under("Terms, FAULT, a byte that begins none");
        anyByte("", -1, 0, 0, 0, 0, 0, 0, 0, 0, 0, 0, 0, 0, 0);
        anyByte("lane", -5, 0, -4, -4, -4, -4, -4, -4, -5, -5, -5, -5, -5, -5);
        anyByte("lane ", -6, -5, -5, -5, -5, -5, -5, -5, -6, -6, -6, -6, -6, -6);
        anyByte("lane 4", -7, -6, 1, -6, -5, -5, -5, -5, -5, -5, -5, -5, -5, -5);
        anyByte("lane 4;", 1, -7, -7, -7, -7, -7, -7, -7, -7, -7, -7, -7, -7, -7);
        anyByte("lane 4;one", -11, -7, -10, -10, -11, -11, -11, -11, -11, -11, -10, -10, -10, -10);
        anyByte("lane 4;one 0", -13, -12, -12, -12, -13, -13, -13, -13, -13, -13, -11, -11, -11, -11);
        anyByte("lane 4;one 0 ", -14, -13, -13, -13, -14, -14, -13, -13, -13, -13, -13, -13, -13, -13);
        anyByte("lane 4;counts 9", -16, -15, 2, -15, -16, -16, -16, -16, -16, -16, -16, -16, -16, -16);
        anyByte("lane 4;counts 99", -17, -16, 2, -16, -14, -14, -14, -14, -14, -14, -14, -14, -14, -14);
    }

    /** Whatever is cut off behind a whole ITEM is read; a cut word is none; else the text ends too early. */
    private static void cutAtEachPlace() {
        Check.under("Terms, FAULT, if it ends too early");
        int items = 0;
        int word = -1;
        for (int length = 0; length < WHOLE.length(); length++) {
            char next = WHOLE.charAt(length);
            boolean within = word >= 0 && next >= 'a' && next <= 'z';
            boolean ended = length > 0 && WHOLE.charAt(length - 1) == ';';
            items += ended ? 1 : 0;
            if (ended) {
                reads(WHOLE.substring(0, length), items);
            } else {
                faults(WHOLE.substring(0, length), within ? word : length);
            }
            word = next < 'a' || next > 'z' ? -1 : within ? word : length;
        }
        faults(" ", 1);
        faults("    ", 4);
        faults("lane   ", 7);
        faults("lane 4   ", 9);
        faults("lane 4;one 0 0 9  ", 18);
    }

    private static void words() {
        Check.under("Terms, FAULT, a word that is none");
        String[] none = {"lan", "lanes", "bane", "lame", "lanf", "lAne", "on", "ones", "ond", "aun", "aunts", "auns", "awa",
            "aways", "awat", "count", "countsa", "bounts", "countt", "a", "z", "lanelane", "oneone", "wide", "undo"};
        for (String word : none) {
            faults("lane 4;one 0 " + word, 13);
            noItemBegins(word);
        }
        faults("Lane 4;", 0);
        faults("lanE 4;", 0);
        faults("lane 4;One 0 0 9;", 7);
        faults("lane 4;laneone 0 0 9;", 7);
        faults("lanex4;", 0);
        faults("lane four;", 5);
        faults("lane 4;one 0 0 one", 15);
    }

    /** Whatever comes behind it would do for one of the words that are told. */
    private static void noItemBegins(String token) {
        for (String numbers : new String[] {"", " 0", " 1", " 4", " 0 0", " 0 0 0"}) {
            faults(" " + token + numbers + ";", 1);
            faults("lane 4;aunt 0 0;" + token + numbers + ";", 16);
        }
    }

    private static void tokensThatAreNoWords() {
        Check.under("Terms, FAULT, the first TOKEN of an ITEM is no word");
        for (String token : new String[] {";", "4", "12", "123", "=", "{", "`", "A", "-", "\0", "\177"}) {
            noItemBegins(token);
        }
    }

    private static void laneOnceFirstOfAll() {
        Check.under("Terms, FAULT, anything ahead of lane");
        String[] items = {"one 0 0 9;", "aunt 0 0;", "away 0;", "counts 1;", "4;", ";", "lan 4;"};
        for (String item : items) {
            faults(item, 0);
            faults("  " + item + "lane 4;", 2);
        }
        Check.under("Terms, FAULT, lane again");
        faults("lane 4;lane 4;", 7);
        faults("lane 4;lane", 7);
        faults("lane 4; lane", 8);
        faults("lane 4;one 0 0 9;aunt 0 0;lane 5;", 26);
    }

    private static void noMoreThanCanCome() {
        Check.under("Terms, FAULT, an 8th one");
        String seven = "lane 4;" + "one 0 0 0;".repeat(7);
        reads(seven, 8);
        faults(seven + "one 0 0 0;", seven.length());
        faults(seven + "  one", seven.length() + 2);
        faults(seven + "one x", seven.length());
        faults(seven + "one 9", seven.length());
        reads(seven + "aunt 0 0;counts 1;", 10);
        Check.under("Terms, FAULT, a 5th aunt at its word");
        String four = "lane 4;" + "aunt 0 0;".repeat(4);
        reads(four, 5);
        faults(four + "aunt 0 0;", four.length());
        faults(four + " aunt", four.length() + 1);
        faults(four + "aunt x", four.length());
        reads(four + "one 0 0 0;away 3;", 7);
        reads(seven + "aunt 0 0;".repeat(4) + "away 3;away 0;counts 99;", 15);
    }

    private static void numbersAsTold() {
        Check.under("Terms, FAULT, a number not as told");
        reads("lane 4;", 1);
        reads("lane 30;", 1);
        faults("lane 3;", 5);
        faults("lane 31;", 5);
        faults("lane 0;", 5);
        faults("lane 99;", 5);
        faults("lane 3", 5);
        faults("lane -4;", 5);
        reads("lane 4;one 0 0 0;one 5 1 9;", 3);
        faults("lane 4;one 6 0 0;", 11);
        faults("lane 4;one 10 0 0;", 11);
        faults("lane 4;one 0 2 0;", 13);
        faults("lane 4;one 0 10 0;", 13);
        faults("lane 4;one 0 0 10;", 15);
        faults("lane 4;one 0 0 99;", 15);
        reads("lane 4;aunt 0 0;aunt 5 1;", 3);
        faults("lane 4;aunt 6 0;", 12);
        faults("lane 4;aunt 0 2;", 14);
        reads("lane 4;counts 1;counts 99;", 3);
        faults("lane 4;counts 0;", 14);
        faults("lane 4;counts 00;", 14);
        Check.under("Terms, TOKENS, 1 or 2 figures are one number");
        reads("lane 04;one 00 01 09;aunt 05 00;away 00;counts 01;", 5);
        reads("lane 4;one05 1 00;", 2);
        faults("lane 4;one 0 09;", 13);
        faults("lane 4;one 00;", 13);
        Calls x = new Calls().type("lane 04;one 05 01 09;counts 10;").due("read()", 3);
        x.dueAll("count(5) 4 of(0,0) 5 of(0,1) 1 of(0,2) 9 count(3) 10");
    }

    private static void auntsNotThereYet() {
        Check.under("Terms, FAULT, an AUNT that is not there yet");
        for (int aunts = 0; aunts <= 4; aunts++) {
            String text = "lane 4;" + "aunt 0 0;".repeat(aunts);
            faults(text + "away " + aunts + ";", text.length() + 5);
            faults(text + "away 9;aunt 0 0;", text.length() + 5);
            if (aunts > 0) {
                reads(text + "away " + (aunts - 1) + ";", aunts + 2);
                reads(text + "away 0;", aunts + 2);
            }
        }
        faults("lane 4;away 0;aunt 0 0;", 12);
        faults("lane 4;away;", 11);
        faults("lane 4;one 0 0 9;away 0;", 22);
    }

    private static void threeFigures() {
        Check.under("Terms, FAULT, a run of three figures or more at its first one");
        faults("lane 004;", 5);
        faults("lane 100;", 5);
        faults("lane 0004;", 5);
        faults("lane 4;one 000 0 0;", 11);
        faults("lane 4;one 0 001 0;", 13);
        faults("lane 4;one 0 0 009;", 15);
        faults("lane 4;one 009;", 11);
        faults("lane 4;aunt 000", 12);
        faults("lane 4;aunt 0 0;away 000;", 21);
        faults("lane 4;counts 001;", 14);
        faults("lane 4;counts 100;", 14);
        faults("lane 4;123", 7);
        faults("lane 4 123", 7);
        faults("123", 0);
        faults("lane 12345678901234567890;", 5);
    }

    private static void blanks() {
        Check.under("Terms, TOKENS, blanks");
        reads("lane4;one0 0 9;aunt0 0;away0;counts1;", 5);
        reads("  lane   4  ;  one  0  0   9 ;   aunt  0  0  ;  away  0 ;  counts  9 ;   ", 5);
        reads("lane 4; ", 1);
        reads(" lane 4;", 1);
        faults("la ne 4;", 0);
        faults("lane 1 2;", 5);
        faults("lane 4 0;", 7);
        faults("lane 4;o ne 0 0 9;", 7);
        faults("lane 4;one 009;", 11);
        faults("lane 4;one 0 0 0 9;", 17);
        faults("lane\t4;", 4);
        faults("lane\n4;", 4);
        faults("\0lane 4;", 0);
        faults("lane 4;\n", 7);
    }

    /** The first token that can not stand there tells the fault, whatever is wrong behind it. */
    private static void otherFaults() {
        Check.under("Terms, FAULT, the first TOKEN that can not stand there");
        faults("lane 31;lane 3;", 5);
        faults("lane 4;one 6 2 10;", 11);
        faults("lane 4;one 0 2 10;", 13);
        faults("lane x ;y", 5);
        faults("lane 4;x;y", 7);
        faults("lane 4;{", 7);
        faults("lane 4;`", 7);
        faults("lane 4;/", 7);
        faults("lane 4::", 6);
        faults("lane 4;one 0:0 9;", 12);
        faults("lane 4;one0/0 9;", 11);
    }

    private static void oneHundredAndFiftyBytes() {
        Check.under("Terms, TEXT, 150 bytes at most");
        reads("lane 4" + " ".repeat(143) + ";", 1);
        reads("lane 4;" + " ".repeat(143), 1);
        reads("lane 4;" + "counts 1; ".repeat(14) + "   ", 15);
        faults(" ".repeat(150), 150);
        faults(" ".repeat(149) + "x", 149);
        faults(" ".repeat(144) + "lane 4", 150);
        faults("lane 4;" + "counts 1; ".repeat(14) + "one", 150);
        faults("lane 4;" + "counts 1; ".repeat(14) + "x y", 147);
        faults("x".repeat(150), 0);
        faults("4".repeat(150), 0);
        Calls x = new Calls().type("lane 4;" + " ".repeat(142) + "x").dueAll("type(59) -4 read() -159 status(2) 1");
        x.dueAll("clear() 150 read() -10 type(59) 1 read() -10");
    }

    private static void housesThatAreRead() {
        Check.under("Terms, HOUSES that are read take the place of all");
        Calls x = Calls.full().run("clear()").type(WHOLE);
        String before = x.status();
        x.due("read()", 7);
        Check.same("STATUS", x.status(), before);
        x.dueAll("count(0) 2 count(1) 2 count(2) 1 count(3) 2 count(4) 0 count(5) 9 count(6) 0 count(7) 0 count(8) 0")
                .dueAll("count(9) 0 count(10) 61 part(0) 51 part(1) 100 lanes() 134217727 is(0) 63 kinds(1) 63")
                .dueAll("undo() -3 about(1,2) 0 from(0) 1 of(0,2) 2 count(9) 2 from(1) 1 of(0,2) 3");
        Calls told = new Calls().run("lane(9) one(0,0,9) one(4,1,8) aunt(0,0) counts(2) aunt(3,1) sends(1,0) wide(9)");
        Check.same("all that was read", new Calls().type(WHOLE).run("read()").all(), told.type(WHOLE).all());
        Check.under("Terms, HOUSES, none at all");
        Calls.full().run("clear()").type("lane 5;").dueAll("read() 1 count(0) 0 count(1) 0 count(2) 0 count(3) 0 count(4) 0")
                .dueAll("count(5) 5 of(0,0) -2 about(0,0) -2 entry() -1");
    }

    private static void itemsWhereTheyStand() {
        Check.under("Terms, counts go by where it stands");
        new Calls().type("lane 9;counts 2;one 0 0 9;one 0 1 9;").dueAll("read() 4 count(3) 2 count(4) 0");
        new Calls().type("lane 9;one 0 0 9;counts 2;one 0 1 9;").dueAll("read() 4 count(3) 2 count(4) 0");
        new Calls().type("lane 9;one 0 0 9;one 0 1 9;counts 2;").dueAll("read() 4 count(3) 2 count(4) 10");
        new Calls().type("lane 9;one 0 0 9;one 0 1 9;counts 1;counts 1;counts 1;").dueAll("read() 6 count(3) 3 count(4) 5");
        new Calls().type("lane 9;one 0 0 9;one 0 1 9;aunt 0 0;counts 2;").dueAll("read() 5 count(4) 8 count(2) 1");
        new Calls().type("lane 9;one 0 0 9;one 0 1 9;counts 2;aunt 0 0;").dueAll("read() 5 count(4) 10 count(2) 1");
        new Calls().type("lane 9;one 0 0 9;one 0 1 9;aunt 0 0;away 0;counts 2;").dueAll("read() 6 count(4) 10 count(2) 0");
        new Calls().type("lane 9;one 0 0 9;one 0 1 9;aunt 0 0;counts 2;away 0;").dueAll("read() 6 count(4) 8 count(2) 0");
        new Calls().type("lane 9;" + "counts99;".repeat(15)).dueAll("read() 16 count(3) 1485 count(9) 0");
    }
}
