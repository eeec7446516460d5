import java.math.BigInteger;
import java.util.ArrayDeque;
import java.util.ArrayList;
import java.util.Arrays;
import java.util.Deque;
import java.util.List;
import java.util.function.IntPredicate;
import java.util.regex.Matcher;
import java.util.regex.Pattern;

/** The document once more, in the slowest and plainest way, to be compared with LaneCymbals. */
final class Model {
    private static final int NONE = -1, BAD = -2, NO = -3, FULL = -4;

    /** The lane, copied whole whenever anything is tried on it. */
    private static final class Lane {
        int width = 12, time, noise;
        List<int[]> people = new ArrayList<>();
        List<int[]> aunts = new ArrayList<>();

        Lane copy() {
            Lane c = new Lane();
            c.width = width;
            c.time = time;
            c.noise = noise;
            people.forEach(p -> c.people.add(p.clone()));
            aunts.forEach(a -> c.aunts.add(a.clone()));
            return c;
        }

        int leaning(int i, int c) {
            int x = lean(people.get(i)[0], people.get(i)[2], c);
            for (int[] a : aunts) {
                if (a[2] == 1 && a[1] == people.get(i)[1]) {
                    x = damp(a[0], x, c);
                }
            }
            return x;
        }

        int sound(int c) {
            int sum = 0;
            for (int i = 0; i < people.size(); i++) {
                for (int j = 0; j < people.size(); j++) {
                    int a = leaning(i, c);
                    int b = leaning(j, c);
                    if (people.get(i)[1] == 0 && people.get(j)[1] == 1 && a >= 1 && b >= 1 && a + b >= width) {
                        sum += 1 + (a + b - width);
                    }
                }
            }
            return sum;
        }

        void pass() {
            noise = Math.min(9999, noise / 2 + sound(time));
            time++;
        }

        boolean soundsWithin(int m) {
            for (int d = 0; d < m; d++) {
                if (sound(time + d) > 0) {
                    return true;
                }
            }
            return false;
        }
    }

    /** What an image keeps. */
    private static final class Whole {
        Lane lane = new Lane();
        List<int[]> heard = new ArrayList<>();
        List<int[]> notes = new ArrayList<>();
        List<int[]> marks = new ArrayList<>();
        Deque<Lane> past = new ArrayDeque<>();

        Whole copy() {
            Whole c = new Whole();
            c.lane = lane.copy();
            c.heard.addAll(heard);
            c.notes.addAll(notes);
            c.marks.addAll(marks);
            past.forEach(l -> c.past.addLast(l.copy()));
            return c;
        }

        void keep() {
            past.addLast(lane.copy());
            if (past.size() > 8) {
                past.removeFirst();
            }
        }
    }

    private Whole w = new Whole();
    private final Whole[] images = new Whole[2];
    private String text = "";
    private BigInteger above = BigInteger.ZERO, below = BigInteger.ONE;
    private final int[] refused = new int[3];

    private static int plain(int a, int c) {
        return c % 4 == 1 ? a : c % 4 == 3 ? -a : 0;
    }

    private static int girl(int a, int c) {
        return plain(a, c) > 0 ? plain(a, c) + 1 : plain(a, c);
    }

    private static int lean(int kind, int a, int c) {
        return switch (kind) {
            case 0 -> plain(a, c);
            case 1 -> girl(a, c);
            case 2 -> plain(a, c) / 2;
            case 3 -> c % 3 == 0 ? 0 : plain(a, c);
            case 4 -> girl(a, c + 1);
            default -> 3 * (plain(a, c) / 2);
        };
    }

    private static int damp(int kind, int x, int c) {
        return switch (kind) {
            case 0 -> x > 2 ? x - 2 : Math.min(x, 0);
            case 1 -> x > 8 ? x / 2 : damp(0, x, c);
            case 2 -> damp(0, damp(0, x, c), c);
            case 3 -> c % 2 == 0 ? damp(0, x, c) : x;
            case 4 -> c % 5 == 4 ? x : damp(3, x, c);
            default -> c % 4 == 0 ? 0 : damp(2, x, c);
        };
    }

    private static boolean in(int n, int least, int most) {
        return least <= n && n <= most;
    }

    private boolean isOne(int i) {
        return in(i, 0, w.lane.people.size() - 1);
    }

    private boolean isAunt(int i) {
        return in(i, 0, w.lane.aunts.size() - 1);
    }

    private int refuse(int reason, int answer) {
        refused[-2 - reason]++;
        return answer;
    }

    private int bad() {
        return refuse(BAD, BAD);
    }

    private static int bits(int n, IntPredicate is) {
        int bits = 0;
        for (int k = 0; k < n; k++) {
            bits |= is.test(k) ? 1 << k : 0;
        }
        return bits;
    }

    int lane(int wide) {
        if (!in(wide, 4, 30)) {
            return bad();
        }
        int before = w.lane.people.size();
        w = new Whole();
        w.lane.width = wide;
        return before;
    }

    int wide(int n) {
        if (!in(n, 4, 30)) {
            return bad();
        }
        int before = w.lane.width;
        w.lane.width = n;
        w.past.clear();
        return before;
    }

    int one(int kind, int house, int swing) {
        if (!in(kind, 0, 5) || !in(house, 0, 1) || !in(swing, 0, 9)) {
            return bad();
        }
        if (w.lane.people.size() == 7) {
            return refuse(FULL, FULL);
        }
        w.past.clear();
        w.lane.people.add(new int[] {kind, house, swing});
        return w.lane.people.size() - 1;
    }

    int aunt(int kind, int house) {
        if (!in(kind, 0, 5) || !in(house, 0, 1)) {
            return bad();
        }
        if (w.lane.aunts.size() == 4) {
            return refuse(FULL, FULL);
        }
        w.past.clear();
        w.lane.aunts.add(new int[] {kind, house, 1});
        return w.lane.aunts.size() - 1;
    }

    int type(int c) {
        if (!in(c, 0, 127)) {
            return bad();
        }
        if (text.length() == 150) {
            return refuse(FULL, FULL);
        }
        text += (char) c;
        return text.length();
    }

    int clear() {
        int before = text.length();
        text = "";
        return before;
    }

    int read() {
        Lane lane = new Lane();
        Matcher m = Pattern.compile("[a-z]+|[0-9]+|[^ ]", Pattern.DOTALL).matcher(text);
        int items = 0;
        List<String> item = new ArrayList<>();
        while (m.find()) {
            if (!mayFollow(lane, items, item, m.group())) {
                return -10 - m.start();
            }
            if (m.group().equals(";")) {
                carryOut(lane, item);
                items++;
                item.clear();
            } else {
                item.add(m.group());
            }
        }
        if (items == 0 || !item.isEmpty()) {
            return -10 - text.length();
        }
        w = new Whole();
        w.lane = lane;
        return items;
    }

    /** The numbers that each item has: least and most of each. */
    private static int[][] numbersOf(String word, Lane lane) {
        return switch (word) {
            case "lane" -> new int[][] {{4, 30}};
            case "one" -> new int[][] {{0, 5}, {0, 1}, {0, 9}};
            case "aunt" -> new int[][] {{0, 5}, {0, 1}};
            case "away" -> new int[][] {{0, lane.aunts.size() - 1}};
            default -> new int[][] {{1, 99}};
        };
    }

    private static boolean mayFollow(Lane lane, int items, List<String> item, String token) {
        if (item.isEmpty()) {
            return switch (token) {
                case "lane" -> items == 0;
                case "one" -> items > 0 && lane.people.size() < 7;
                case "aunt" -> items > 0 && lane.aunts.size() < 4;
                case "away", "counts" -> items > 0;
                default -> false;
            };
        }
        int[][] numbers = numbersOf(item.get(0), lane);
        if (item.size() == numbers.length + 1) {
            return token.equals(";");
        }
        int[] range = numbers[item.size() - 1];
        return token.matches("[0-9]{1,2}") && in(Integer.parseInt(token), range[0], range[1]);
    }

    private static void carryOut(Lane lane, List<String> item) {
        int[] n = item.stream().skip(1).mapToInt(Integer::parseInt).toArray();
        switch (item.get(0)) {
            case "lane" -> lane.width = n[0];
            case "one" -> lane.people.add(n);
            case "aunt" -> lane.aunts.add(new int[] {n[0], n[1], 1});
            case "away" -> lane.aunts.get(n[0])[2] = 0;
            default -> {
                for (int k = 0; k < n[0]; k++) {
                    lane.pass();
                }
            }
        }
    }

    int counts(int n) {
        if (!in(n, 1, 99)) {
            return bad();
        }
        w.keep();
        for (int k = 0; k < n; k++) {
            if (w.lane.time < 9999) {
                w.lane.pass();
            }
        }
        return w.lane.noise;
    }

    int swings(int i, int a) {
        if (!isOne(i) || !in(a, 0, 9)) {
            return bad();
        }
        int before = w.lane.people.get(i)[2];
        if (before == a) {
            return refuse(NO, NO);
        }
        w.keep();
        w.lane.people.get(i)[2] = a;
        return before;
    }

    int sends(int i, int is) {
        if (!isAunt(i) || !in(is, 0, 1)) {
            return bad();
        }
        int before = w.lane.aunts.get(i)[2];
        if (before == is) {
            return refuse(NO, NO);
        }
        w.keep();
        w.lane.aunts.get(i)[2] = is;
        return before;
    }

    int undo() {
        if (w.past.isEmpty()) {
            return refuse(NO, NO);
        }
        w.lane = w.past.removeLast();
        return w.lane.time;
    }

    int of(int i, int what) {
        return isOne(i) && in(what, 0, 2) ? w.lane.people.get(i)[what] : bad();
    }

    int about(int i, int what) {
        return isAunt(i) && in(what, 0, 2) ? w.lane.aunts.get(i)[what] : bad();
    }

    int leans(int i, int c, int what) {
        if (!isOne(i) || !in(c, 0, 99) || !in(what, 0, 1)) {
            return refuse(BAD, -1000);
        }
        int[] one = w.lane.people.get(i);
        return what == 0 ? lean(one[0], one[2], c) : w.lane.leaning(i, c);
    }

    int sound(int c) {
        return in(c, 0, 99) ? w.lane.sound(c) : bad();
    }

    int entry() {
        for (int d = 0; d <= 60; d++) {
            if (w.lane.sound(w.lane.time + d) > 0) {
                return d;
            }
        }
        return NONE;
    }

    int then(int m) {
        if (!in(m, 0, 60)) {
            return bad();
        }
        Lane trial = w.lane.copy();
        for (int k = 0; k < m; k++) {
            trial.pass();
        }
        return trial.noise;
    }

    private Lane withAunts(int bits) {
        Lane trial = w.lane.copy();
        for (int k = 0; k < trial.aunts.size(); k++) {
            trial.aunts.get(k)[2] = bits >> k & 1;
        }
        return trial;
    }

    int still(int m) {
        if (!in(m, 1, 60)) {
            return bad();
        }
        for (int many = 0; many <= w.lane.aunts.size(); many++) {
            for (int bits = 0; bits < 1 << w.lane.aunts.size(); bits++) {
                if (Integer.bitCount(bits) == many && !withAunts(bits).soundsWithin(m)) {
                    return bits;
                }
            }
        }
        return NONE;
    }

    private Lane withSwing(int i, int a) {
        Lane trial = w.lane.copy();
        trial.people.get(i)[2] = a;
        return trial;
    }

    private Lane withWidth(int width) {
        Lane trial = w.lane.copy();
        trial.width = width;
        return trial;
    }

    int push(int i, int c) {
        if (!isOne(i) || !in(c, 0, 99)) {
            return bad();
        }
        for (int a = 0; a <= 9; a++) {
            if (withSwing(i, a).sound(c) > 0) {
                return a;
            }
        }
        return NONE;
    }

    int widest() {
        for (int width = 30; width >= 4; width--) {
            if (withWidth(width).soundsWithin(60)) {
                return width;
            }
        }
        return NONE;
    }

    int wrong(int c) {
        if (!in(c, 0, 99)) {
            return bad();
        }
        return bits(w.lane.people.size(), i -> {
            Lane trial = w.lane.copy();
            trial.people.remove(i);
            return w.lane.sound(c) > 0 && trial.sound(c) == 0;
        });
    }

    private boolean mayMarry(int i, int j) {
        int[] p = w.lane.people.get(i);
        int[] q = w.lane.people.get(j);
        for (int c = 0; c <= 3; c++) {
            if (Math.abs(lean(p[0], p[2], c) - lean(q[0], q[2], c)) > 2) {
                return false;
            }
        }
        return p[1] == 0 && q[1] == 1;
    }

    /** All ways in their order; the first of the most pairs is kept. */
    private void ways(int i, int[] partner, int pairs, int[][] best) {
        if (i == w.lane.people.size()) {
            if (pairs > best[1][0]) {
                best[0] = partner.clone();
                best[1][0] = pairs;
            }
            return;
        }
        ways(i + 1, partner, pairs, best);
        for (int j = 0; j < w.lane.people.size(); j++) {
            if (mayMarry(i, j) && partner[j] == NONE) {
                partner[i] = j;
                partner[j] = i;
                ways(i + 1, partner, pairs + 1, best);
                partner[i] = NONE;
                partner[j] = NONE;
            }
        }
    }

    int marry(int i) {
        if (i != NONE && !isOne(i)) {
            return refuse(BAD, -10);
        }
        int[] partner = new int[7];
        Arrays.fill(partner, NONE);
        int[][] best = {partner.clone(), {NONE}};
        ways(0, partner, 0, best);
        return i == NONE ? best[1][0] : best[0][i];
    }

    private int add(List<int[]> rows, int... row) {
        if (rows.size() == 6) {
            return refuse(FULL, FULL);
        }
        rows.add(row);
        return rows.size();
    }

    int heard(int c, int sounds) {
        return in(c, 0, 99) && in(sounds, 0, 1) ? add(w.heard, c, sounds) : bad();
    }

    private boolean allHeard(Lane trial) {
        return w.heard.stream().allMatch(h -> trial.sound(h[0]) > 0 == (h[1] == 1));
    }

    int lanes() {
        return bits(27, k -> allHeard(withWidth(k + 4)));
    }

    int swung(int i) {
        return isOne(i) ? bits(10, a -> allHeard(withSwing(i, a))) : bad();
    }

    int hear() {
        int fit = lanes();
        int best = NONE;
        int least = 99;
        for (int c = 0; c <= 23 && fit != 0; c++) {
            int at = c;
            int sounding = Integer.bitCount(fit & bits(27, k -> withWidth(k + 4).sound(at) > 0));
            int greater = Math.max(sounding, Integer.bitCount(fit) - sounding);
            if (greater < least) {
                least = greater;
                best = c;
            }
        }
        return best;
    }

    int note(int i, int a, int c, int x) {
        boolean told = isOne(i) && in(a, 0, 9) && in(c, 0, 99) && in(x, -20, 20);
        return told ? add(w.notes, i, a, c, x) : bad();
    }

    int mark(int i, int x, int c, int y) {
        boolean told = isAunt(i) && in(x, -20, 20) && in(c, 0, 99) && in(y, -20, 20);
        return told ? add(w.marks, i, x, c, y) : bad();
    }

    int forget(int what) {
        if (!in(what, 0, 2)) {
            return bad();
        }
        List<int[]> rows = what == 0 ? w.heard : what == 1 ? w.notes : w.marks;
        int before = rows.size();
        rows.clear();
        return before;
    }

    int is(int i) {
        return !isOne(i) ? bad() : bits(6, kind -> w.notes.stream()
                .allMatch(n -> n[0] != i || lean(kind, n[1], n[2]) == n[3]));
    }

    int kinds(int i) {
        return !isAunt(i) ? bad() : bits(6, kind -> w.marks.stream()
                .allMatch(n -> n[0] != i || damp(kind, n[1], n[2]) == n[3]));
    }

    private static int most(int fit, java.util.function.IntUnaryOperator answer) {
        java.util.Map<Integer, Integer> alike = new java.util.TreeMap<>();
        for (int kind = 0; kind < 6; kind++) {
            if ((fit >> kind & 1) == 1) {
                alike.merge(answer.applyAsInt(kind), 1, Integer::sum);
            }
        }
        return alike.values().stream().max(Integer::compare).orElse(0);
    }

    int look(int i) {
        if (!isOne(i)) {
            return bad();
        }
        int fit = is(i);
        int best = NONE;
        int fewest = 99;
        for (int c = 0; c <= 11 && fit != 0; c++) {
            for (int a = 0; a <= 9; a++) {
                int at = c;
                int by = a;
                int most = most(fit, kind -> lean(kind, by, at));
                if (most < fewest) {
                    fewest = most;
                    best = 10 * c + a;
                }
            }
        }
        return best;
    }

    int ask(int i) {
        if (!isAunt(i)) {
            return bad();
        }
        int fit = kinds(i);
        int best = NONE;
        int fewest = 99;
        for (int c = 0; c <= 9 && fit != 0; c++) {
            for (int x = 0; x <= 15; x++) {
                int at = c;
                int by = x;
                int most = most(fit, kind -> damp(kind, by, at));
                if (most < fewest) {
                    fewest = most;
                    best = 100 * c + x;
                }
            }
        }
        return best;
    }

    int game(int i, int aunt, int c, int k) {
        if (!isOne(i) || !isAunt(aunt) || !in(c, 0, 99) || k < -1) {
            return refuse(BAD, -10);
        }
        int[][] sounds = new int[2][10];
        for (int j = 0; j <= 1; j++) {
            for (int a = 0; a <= 9; a++) {
                Lane trial = withSwing(i, a);
                trial.aunts.get(aunt)[2] = j;
                sounds[j][a] = trial.sound(c);
            }
        }
        List<Integer> rest = new ArrayList<>();
        for (int j = 0; j <= 1; j++) {
            for (int a = 0; a <= 9; a++) {
                boolean rests = -sounds[j][a] - 2 * j >= -sounds[1 - j][a] - 2 * (1 - j);
                for (int other = 0; other <= 9; other++) {
                    rests &= sounds[j][other] - other <= sounds[j][a] - a;
                }
                if (rests) {
                    rest.add(10 * j + a);
                }
            }
        }
        return k == NONE ? rest.size() : k < rest.size() ? rest.get(k) : -5;
    }

    int slips(int c, int o) {
        if (!in(c, 0, 99) || !in(o, 0, 10)) {
            return bad();
        }
        BigInteger parts = slip(w.lane, 0, c, o);
        BigInteger whole = BigInteger.TEN.pow(w.lane.aunts.size());
        BigInteger common = parts.gcd(whole);
        above = parts.divide(common);
        below = whole.divide(common);
        return 1;
    }

    /** Parts of 10 to the number of aunts from k on. */
    private static BigInteger slip(Lane lane, int k, int c, int o) {
        if (k == lane.aunts.size()) {
            return lane.sound(c) > 0 ? BigInteger.ONE : BigInteger.ZERO;
        }
        BigInteger as = slip(lane, k + 1, c, o);
        if (lane.aunts.get(k)[2] == 0) {
            return as.multiply(BigInteger.TEN);
        }
        Lane away = lane.copy();
        away.aunts.get(k)[2] = 0;
        return as.multiply(BigInteger.valueOf(10 - o))
                .add(slip(away, k + 1, c, o).multiply(BigInteger.valueOf(o)));
    }

    int reigns(int seed, int n) {
        if (!in(seed, 0, 999999) || !in(n, 0, 60)) {
            return bad();
        }
        BigInteger x = BigInteger.valueOf(seed);
        Lane trial = w.lane.copy();
        int sum = 0;
        for (int k = 0; k < n; k++) {
            x = x.multiply(BigInteger.valueOf(1103515245)).add(BigInteger.valueOf(12345))
                    .mod(BigInteger.ONE.shiftLeft(31));
            int who = x.shiftRight(16).mod(BigInteger.valueOf(7)).intValue();
            int swing = x.shiftRight(20).mod(BigInteger.TEN).intValue();
            if (isOne(who)) {
                trial.people.get(who)[2] = swing;
            }
            sum += trial.sound(trial.time + k);
        }
        return sum;
    }

    long part(int what) {
        return in(what, 0, 1) ? (what == 0 ? above : below).longValueExact() : bad();
    }

    int image(int i) {
        if (!in(i, 0, 1)) {
            return bad();
        }
        images[i] = w.copy();
        return 1;
    }

    int from(int i) {
        if (!in(i, 0, 1)) {
            return bad();
        }
        if (images[i] == null) {
            return refuse(NO, NO);
        }
        w = images[i].copy();
        return 1;
    }

    int status(int what) {
        return in(what, 0, 2) ? refused[what] : refuse(BAD, -1);
    }

    private int[] all() {
        int there = (int) w.lane.aunts.stream().filter(a -> a[2] == 1).count();
        return new int[] {w.lane.people.size(), w.lane.aunts.size(), there, w.lane.time, w.lane.noise,
            w.lane.width, w.heard.size(), w.notes.size(), w.marks.size(), w.past.size(), text.length()};
    }

    int count(int what) {
        return in(what, 0, 10) ? all()[what] : bad();
    }

    long digest() {
        BigInteger h = BigInteger.valueOf(1559);
        List<Integer> values = new ArrayList<>();
        Arrays.stream(all()).forEach(values::add);
        for (List<int[]> rows : List.of(w.lane.people, w.lane.aunts, w.heard, w.notes, w.marks)) {
            rows.forEach(row -> Arrays.stream(row).forEach(values::add));
        }
        values.add(above.intValueExact());
        values.add(below.intValueExact());
        for (int v : values) {
            h = h.multiply(BigInteger.valueOf(31)).add(BigInteger.valueOf(v));
        }
        return h.longValue();
    }
}
