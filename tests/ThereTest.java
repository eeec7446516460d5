/** Promises 38 to 43: the fraction, images, STATUS, how many, the digest. */
public final class ThereTest {

    public static void main(String[] args) {
        part();
        images();
        twoImages();
        status();
        count();
        digest();
        Check.end();
    }

    private static void part() {
        Check.under("Promise 38, part");
        LaneCymbals x = Check.told("lane 17;one 0 0 9;one 0 1 9;aunt 0 0;");
        x.slips(1, 4);
        Check.due("part(0)", x.part(0), 2);
        Check.due("part(1)", x.part(1), 5);
        Check.due("part(-1)", x.part(-1), -2);
        Check.due("part(2)", x.part(2), -2);
        x.lane(4);
        Check.due("part(0)", x.part(0), 2);
        Check.refused("part", x, 2, 0, 0);
    }

    private static void images() {
        Check.under("Promises 39 and 40, image and from");
        LaneCymbals x = Check.told("lane 10;one 0 0 9;one 0 1 9;aunt 0 0;");
        x.counts(2);
        x.swings(0, 8);
        x.heard(1, 1);
        x.note(0, 1, 1, 1);
        x.mark(0, 1, 1, 1);
        x.type('a');
        x.slips(1, 5);
        long before = x.digest();
        Check.due("image(0)", x.image(0), 1);
        Check.due("nothing is changed", x.digest(), before);
        x.sends(0, 0);
        x.heard(2, 0);
        x.note(1, 1, 1, 1);
        x.mark(0, 2, 1, 1);
        x.one(1, 1, 1);
        x.aunt(1, 1);
        x.wide(30);
        x.counts(5);
        Check.due("from(0)", x.from(0), 1);
        Check.due("as it was", x.digest(), before);
        Check.due("undo of a swing", x.undo(), 2);
        Check.due("of(0, 2)", x.of(0, 2), 9);
        Check.due("undo of counts", x.undo(), 0);
        Check.due("undo()", x.undo(), -3);
        x.type('b');
        x.wide(4);
        x.sends(0, 0);
        x.slips(0, 0);
        Check.due("the image is still as it was", x.from(0), 1);
        Check.counted("from", x, 2, 1, 1, 2, 7, 10, 1, 1, 1, 2, 2);
        Check.due("the fraction stays", x.part(0), 0);
        x.image(0);
        Check.due("image(-1)", x.image(-1), -2);
        Check.due("image(2)", x.image(2), -2);
        Check.due("from(-1)", x.from(-1), -2);
        Check.due("from(2)", x.from(2), -2);
        Check.due("from(1)", x.from(1), -3);
        Check.refused("images", x, 4, 2, 0);
    }

    private static void twoImages() {
        Check.under("Promises 39 and 40, image and from");
        LaneCymbals x = new LaneCymbals();
        x.image(1);
        Check.due("from(0)", x.from(0), -3);
        x.lane(20);
        x.one(0, 0, 1);
        x.image(0);
        x.lane(21);
        Check.due("from(1)", x.from(1), 1);
        Check.due("count(5)", x.count(5), 12);
        Check.due("from(0)", x.from(0), 1);
        Check.due("count(5)", x.count(5), 20);
        Check.due("of(0, 2)", x.of(0, 2), 1);
        x.lane(22);
        x.image(0);
        x.lane(23);
        x.from(0);
        Check.due("the newer one", x.count(5), 22);
    }

    private static void status() {
        Check.under("Promise 41, status");
        LaneCymbals x = new LaneCymbals();
        Check.due("status(3)", x.status(3), -1);
        Check.due("status(-1)", x.status(-1), -1);
        Check.due("status(MIN)", x.status(Integer.MIN_VALUE), -1);
        Check.due("they count as BAD", x.status(0), 3);
        x.undo();
        x.from(0);
        x.from(1);
        x.leans(0, 0, 0);
        x.marry(7);
        x.game(0, 0, 0, 0);
        Check.refused("status", x, 6, 3, 0);
        x.entry();
        x.widest();
        x.read();
        x.one(0, 0, 0);
        x.aunt(0, 0);
        x.push(0, 0);
        x.game(0, 0, 0, 99);
        x.marry(0);
        Check.refused("NONE, a fault, not so many are no refusals", x, 6, 3, 0);
        for (int k = 0; k < 8; k++) {
            x.one(0, 0, 0);
            x.heard(0, 0);
        }
        Check.refused("two 8ths and one 7th", x, 6, 3, 4);
        x.image(0);
        x.lane(4);
        x.from(0);
        x.type('l');
        x.read();
        Check.refused("images, lanes leave it", x, 6, 3, 4);
    }

    private static void count() {
        Check.under("Promise 42, count");
        LaneCymbals x = Check.told("lane 10;one 0 0 9;one 0 1 9;one 0 1 9;aunt 0 0;aunt 0 0;away 1;counts 2;");
        x.swings(1, 1);
        x.heard(0, 0);
        x.heard(0, 0);
        x.heard(0, 0);
        x.note(0, 0, 0, 0);
        x.note(0, 0, 0, 0);
        x.mark(0, 0, 0, 0);
        x.type('a');
        x.type('a');
        x.type('a');
        x.type('a');
        Check.counted("count", x, 3, 2, 1, 2, 14, 10, 3, 2, 1, 1, 4);
        Check.due("count(-1)", x.count(-1), -2);
        Check.due("count(11)", x.count(11), -2);
        Check.refused("count", x, 2, 0, 0);
    }

    private static long of(long... all) {
        long h = 1559;
        for (long v : all) {
            h = 31 * h + v;
        }
        return h;
    }

    private static void digest() {
        Check.under("Promise 43, digest");
        LaneCymbals x = new LaneCymbals();
        Check.due("digest of a new object", x.digest(), of(0, 0, 0, 0, 0, 12, 0, 0, 0, 0, 0, 0, 1));
        x = Check.told("lane 17;one 1 0 8;one 0 1 9;aunt 0 0;aunt 3 1;away 1;counts 6;");
        x.swings(0, 9);
        x.heard(5, 1);
        x.heard(6, 0);
        x.note(1, 2, 3, -4);
        x.mark(0, -5, 6, 7);
        x.mark(1, 8, 9, -10);
        x.slips(1, 4);
        x.type('z');
        Check.due("digest", x.digest(), of(2, 2, 1, 6, 0, 17, 2, 1, 2, 1, 1,
                1, 0, 9, 0, 1, 9, 0, 0, 1, 3, 1, 0, 5, 1, 6, 0, 1, 2, 3, -4,
                0, -5, 6, 7, 1, 8, 9, -10, 1, 1));
        x.image(0);
        x.sound(100);
        Check.due("images and STATUS are not in it", x.digest(), of(2, 2, 1, 6, 0, 17, 2, 1, 2, 1, 1,
                1, 0, 9, 0, 1, 9, 0, 0, 1, 3, 1, 0, 5, 1, 6, 0, 1, 2, 3, -4,
                0, -5, 6, 7, 1, 8, 9, -10, 1, 1));
    }
}
