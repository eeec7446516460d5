import java.lang.reflect.Method;
import java.util.HashMap;
import java.util.List;
import java.util.Map;
import java.util.function.Supplier;

/** An object and its calls, told as texts like "one(0,1,9)": so the same houses can be made twice and compared. */
final class Calls {
    /** The document promises nothing of an object behind this many calls. */
    private static final int MOST_CALLS = 512;
    private static final List<Supplier<Calls>> ALL_HOUSES = List.of(Calls::empty, Calls::some, Calls::full);
    private static final Map<String, Method> METHODS = new HashMap<>();

    static {
        for (Method m : LaneCymbals.class.getDeclaredMethods()) {
            METHODS.put(m.getName(), m);
        }
    }

    private final LaneCymbals object = new LaneCymbals();
    private int made;

    long answer(String call) {
        made++;
        if (made > MOST_CALLS) {
            Check.due("calls of one object", made, MOST_CALLS);
        }
        int open = call.indexOf('(');
        String told = call.substring(open + 1, call.length() - 1);
        String[] words = told.isEmpty() ? new String[0] : told.split(",");
        Object[] numbers = new Object[words.length];
        for (int k = 0; k < words.length; k++) {
            numbers[k] = Integer.parseInt(words[k]);
        }
        try {
            return ((Number) METHODS.get(call.substring(0, open)).invoke(object, numbers)).longValue();
        } catch (ReflectiveOperationException e) {
            throw new IllegalStateException(call, e);
        }
    }

    /** All calls of the text, with blanks between them, whatever they answer. */
    Calls run(String calls) {
        for (String call : calls.split(" ")) {
            answer(call);
        }
        return this;
    }

    Calls type(String text) {
        for (int k = 0; k < text.length(); k++) {
            answer("type(" + (int) text.charAt(k) + ")");
        }
        return this;
    }

    Calls due(String call, long want) {
        Check.due(call, answer(call), want);
        return this;
    }

    /** Calls and their answers: "one(0,0,9) 0 one(0,1,9) 1 sound(1) 7". */
    Calls dueAll(String callsAndAnswers) {
        String[] words = callsAndAnswers.split(" ");
        for (int k = 0; k + 1 < words.length; k += 2) {
            due(words[k], Long.parseLong(words[k + 1]));
        }
        return this;
    }

    String status() {
        return answer("status(0)") + " BAD, " + answer("status(1)") + " NO, " + answer("status(2)") + " FULL";
    }

    /** All that can be told of the object but STATUS; it is used up by that. */
    String all() {
        StringBuilder s = new StringBuilder().append(answer("digest()"));
        undoAll(s);
        for (int image = 0; image <= 1; image++) {
            s.append(" image ").append(answer("from(" + image + ")")).append(' ').append(answer("digest()"));
            undoAll(s);
        }
        return s.append(" text ").append(answer("read()")).append(' ').append(answer("digest()")).toString();
    }

    private void undoAll(StringBuilder s) {
        for (int k = 0; k < 9; k++) {
            s.append(" undo ").append(answer("undo()")).append(' ').append(answer("digest()"));
        }
    }

    static Calls empty() {
        return new Calls();
    }

    /** 3 people, 2 aunts, one of them away, 3 that may be undone, two of all that was told, one image. */
    static Calls some() {
        return new Calls()
                .run("lane(9) one(4,1,3) aunt(2,0) heard(2,1) counts(3) sends(0,0) image(1)")
                .run("lane(14) one(0,0,9) one(4,1,8) one(1,1,5) aunt(0,0) aunt(3,1) slips(1,5) wide(10)")
                .run("heard(1,1) heard(99,0) note(0,5,1,5) note(2,3,3,-3) mark(1,9,4,7) mark(0,3,1,1)")
                .run("counts(2) swings(0,7) sends(1,0)")
                .type("lane 5;one 1 0 2;counts 2;");
    }

    /** 7 people, 4 aunts, 8 that may be undone, 6 of all that was told, 150 bytes, both images. */
    static Calls full() {
        Calls x = new Calls().run("lane(9) one(4,1,3) counts(3) image(1) swings(0,2) image(0) lane(10)");
        for (int i = 0; i < 7; i++) {
            x.run("one(" + (i % 6) + "," + (i % 2) + "," + (9 - i) + ")");
        }
        for (int i = 0; i < 4; i++) {
            x.run("aunt(" + (i + 1) + "," + (i % 2) + ")");
        }
        for (int k = 0; k < 6; k++) {
            x.run("heard(" + (90 + k) + "," + (k % 2) + ") note(" + k + ",9," + k + "," + (3 * k) + ")"
                    + " mark(" + (k % 4) + "," + k + "," + (2 * k) + "," + (k - 2) + ")");
        }
        x.run("slips(1,3) wide(5)");
        for (int k = 0; k < 4; k++) {
            x.run((k == 0 ? "counts(2)" : "counts(1)") + " swings(" + k + "," + k + ")");
        }
        return x.type("lane 4;" + "counts 99;".repeat(14) + "   ");
    }

    /** Both houses sound at COUNTS that 4 divides and at those behind them; it is COUNT 9999, the last. */
    static Calls late() {
        Calls x = new Calls().run("lane(10) one(0,0,9) one(4,1,8) one(4,0,9) one(0,1,5) aunt(0,0)");
        for (int k = 0; k < 101; k++) {
            x.run("counts(99)");
        }
        return x;
    }

    /** A call that is not taken: its answer, one more of the reason in STATUS, and all else as it was. */
    static void refused(Supplier<Calls> houses, String call, long answer, int reason) {
        Calls x = houses.get();
        Calls twin = houses.get();
        int[] before = {(int) x.answer("status(0)"), (int) x.answer("status(1)"), (int) x.answer("status(2)")};
        x.due(call, answer);
        before[reason]++;
        for (int k = 0; k < before.length; k++) {
            x.due("status(" + k + ")", before[k]);
        }
        Check.same("all but STATUS behind " + call, x.all(), twin.all());
    }

    /** Calls that are BAD whoever is there, answered so: also ahead of NO and of FULL. */
    static void bad(String calls, long answer) {
        for (String call : calls.split(" ")) {
            for (Supplier<Calls> houses : ALL_HOUSES) {
                refused(houses, call, answer, 0);
            }
        }
    }

    static void bad(String calls) {
        bad(calls, LaneCymbals.BAD);
    }

    /** A call that is taken: its answer, and STATUS as it was. */
    static Calls taken(Supplier<Calls> houses, String call, long answer) {
        Calls x = houses.get();
        String before = x.status();
        x.due(call, answer);
        Check.same("STATUS behind " + call, x.status(), before);
        return x;
    }

    /** A call that only tells: it is taken, and all is as it was. */
    static void told(Supplier<Calls> houses, String call, long answer) {
        Check.same("all behind " + call, taken(houses, call, answer).all(), houses.get().all());
    }
}
