/** Two houses that face each other across a lane, as the document of LaneCymbals tells. */
public final class LaneCymbals {

    public static final int NONE = -1, BAD = -2, NO = -3, FULL = -4;

    private static final int LEAST_WIDTH = 4, MOST_WIDTH = 30, FIRST_WIDTH = 12;
    private static final int WIDTHS = MOST_WIDTH - LEAST_WIDTH + 1;
    private static final int MOST_PEOPLE = 7, MOST_AUNTS = 4, KIND_COUNT = 6;
    private static final int MOST_SWING = 9, SWING_COUNT = 10, MOST_LEAN = 20;
    private static final int LAST_ASKED = 99, MOST_AT_ONCE = 99, AHEAD = 60;
    private static final int MOST_COUNT = 9999, MOST_NOISE = 9999;
    private static final int MOST_ROWS = 6, ROW_LENGTH = 4;
    private static final int MOST_UNDONE = 8, MOST_BYTES = 150, MOST_SEED = 999999;
    private static final int NOT_A_LEAN = -1000, NOT_A_PAIR = -10, NOT_SO_MANY = -5;
    private static final int LAST_COUNTED = 10, FIRST_DIGEST = 1559;

    private final Houses now = new Houses();
    private final Houses firstImage = new Houses();
    private final Houses secondImage = new Houses();
    private boolean firstKept, secondKept;
    private final Text text = new Text();
    private final Fraction fraction = new Fraction();
    private final Trial trial = new Trial();
    private final Guess guess = new Guess();
    private final Wedding wedding = new Wedding();
    private int badCalls, noCalls, fullCalls;

    public LaneCymbals() {
    }

    // ---- two houses

    public int lane(int wide) {
        if (outside(wide, LEAST_WIDTH, MOST_WIDTH)) {
            return refuseBad(BAD);
        }
        int before = now.lane.people;
        now.startAgain(wide);
        return before;
    }

    public int wide(int w) {
        if (outside(w, LEAST_WIDTH, MOST_WIDTH)) {
            return refuseBad(BAD);
        }
        int before = now.lane.width;
        now.lane.width = w;
        now.past.forgetAll();
        return before;
    }

    public int one(int kind, int house, int swing) {
        if (notKind(kind) || notHouse(house) || notSwing(swing)) {
            return refuseBad(BAD);
        }
        if (!now.lane.addOne(kind, house, swing)) {
            return refuseFull();
        }
        now.past.forgetAll();
        return now.lane.people - 1;
    }

    public int aunt(int kind, int house) {
        if (notKind(kind) || notHouse(house)) {
            return refuseBad(BAD);
        }
        if (!now.lane.addAunt(kind, house)) {
            return refuseFull();
        }
        now.past.forgetAll();
        return now.lane.aunts - 1;
    }

    public int type(int c) {
        if (outside(c, 0, 127)) {
            return refuseBad(BAD);
        }
        if (!text.append(c)) {
            return refuseFull();
        }
        return text.length;
    }

    public int clear() {
        int before = text.length;
        text.length = 0;
        return before;
    }

    public int read() {
        int items = text.readInto(trial.lane);
        if (items > 0) {
            now.startAgain(FIRST_WIDTH);
            now.lane.copyFrom(trial.lane);
        }
        return items;
    }

    // ---- counts

    public int counts(int n) {
        if (outside(n, 1, MOST_AT_ONCE)) {
            return refuseBad(BAD);
        }
        now.past.keep(now.lane);
        now.lane.passUpTo(n, MOST_COUNT);
        return now.lane.noise;
    }

    public int swings(int i, int a) {
        if (!now.lane.hasOne(i) || notSwing(a)) {
            return refuseBad(BAD);
        }
        int before = now.lane.swingOf(i);
        if (before == a) {
            return refuseNo();
        }
        now.past.keep(now.lane);
        now.lane.setSwing(i, a);
        return before;
    }

    public int sends(int i, int is) {
        if (!now.lane.hasAunt(i) || outside(is, 0, 1)) {
            return refuseBad(BAD);
        }
        int before = now.lane.isThere(i) ? 1 : 0;
        if (before == is) {
            return refuseNo();
        }
        now.past.keep(now.lane);
        now.lane.setThere(i, is == 1);
        return before;
    }

    public int undo() {
        if (!now.past.takeBack(now.lane)) {
            return refuseNo();
        }
        return now.lane.time;
    }

    public int of(int i, int what) {
        if (!now.lane.hasOne(i) || outside(what, 0, 2)) {
            return refuseBad(BAD);
        }
        return now.lane.factOfOne(i, what);
    }

    public int about(int i, int what) {
        if (!now.lane.hasAunt(i) || outside(what, 0, 2)) {
            return refuseBad(BAD);
        }
        return now.lane.factOfAunt(i, what);
    }

    // ---- what sounds

    public int leans(int i, int c, int what) {
        if (!now.lane.hasOne(i) || notAsked(c) || outside(what, 0, 1)) {
            return refuseBad(NOT_A_LEAN);
        }
        return what == 0 ? now.lane.leanOf(i, c) : now.lane.leaningOf(i, c);
    }

    public int sound(int c) {
        if (notAsked(c)) {
            return refuseBad(BAD);
        }
        return now.lane.soundAt(c);
    }

    public int entry() {
        return now.lane.firstSounding(AHEAD + 1);
    }

    public int then(int m) {
        if (outside(m, 0, AHEAD)) {
            return refuseBad(BAD);
        }
        return trial.noiseBehind(now.lane, m);
    }

    public int still(int m) {
        if (outside(m, 1, AHEAD)) {
            return refuseBad(BAD);
        }
        return trial.fewestAunts(now.lane, m);
    }

    public int push(int i, int c) {
        if (!now.lane.hasOne(i) || notAsked(c)) {
            return refuseBad(BAD);
        }
        return trial.leastPush(now.lane, i, c);
    }

    public int widest() {
        return now.lane.widestSounding(AHEAD);
    }

    public int wrong(int c) {
        if (notAsked(c)) {
            return refuseBad(BAD);
        }
        return now.lane.neededAt(c);
    }

    public int marry(int i) {
        if (i != NONE && !now.lane.hasOne(i)) {
            return refuseBad(NOT_A_PAIR);
        }
        wedding.arrange(now.lane);
        return i == NONE ? wedding.pairs : wedding.partnerOf(i);
    }

    // ---- when it sounded

    public int heard(int c, int sounds) {
        if (notAsked(c) || outside(sounds, 0, 1)) {
            return refuseBad(BAD);
        }
        return added(now.soundings, now.soundings.add(c, sounds, 0, 0));
    }

    public int lanes() {
        return trial.lanesThatFit(now.lane, now.soundings);
    }

    public int swung(int i) {
        if (!now.lane.hasOne(i)) {
            return refuseBad(BAD);
        }
        return trial.swingsThatFit(now.lane, now.soundings, i);
    }

    public int hear() {
        return Trial.bestCount(now.lane, trial.lanesThatFit(now.lane, now.soundings));
    }

    public int note(int i, int a, int c, int x) {
        if (!now.lane.hasOne(i) || notSwing(a) || notAsked(c) || notLean(x)) {
            return refuseBad(BAD);
        }
        return added(now.notes, now.notes.add(i, a, c, x));
    }

    public int mark(int i, int x, int c, int y) {
        if (!now.lane.hasAunt(i) || notLean(x) || notAsked(c) || notLean(y)) {
            return refuseBad(BAD);
        }
        return added(now.marks, now.marks.add(i, x, c, y));
    }

    public int forget(int what) {
        switch (what) {
            case 0:
                return now.soundings.forgetAll();
            case 1:
                return now.notes.forgetAll();
            case 2:
                return now.marks.forgetAll();
            default:
                return refuseBad(BAD);
        }
    }

    public int is(int i) {
        if (!now.lane.hasOne(i)) {
            return refuseBad(BAD);
        }
        return Guess.kindsOfOne(now.notes, i);
    }

    public int look(int i) {
        if (!now.lane.hasOne(i)) {
            return refuseBad(BAD);
        }
        return guess.bestLook(Guess.kindsOfOne(now.notes, i));
    }

    public int kinds(int i) {
        if (!now.lane.hasAunt(i)) {
            return refuseBad(BAD);
        }
        return Guess.kindsOfAunt(now.marks, i);
    }

    public int ask(int i) {
        if (!now.lane.hasAunt(i)) {
            return refuseBad(BAD);
        }
        return guess.bestAsk(Guess.kindsOfAunt(now.marks, i));
    }

    public int game(int i, int aunt, int c, int k) {
        if (!now.lane.hasOne(i) || !now.lane.hasAunt(aunt) || notAsked(c) || k < NONE) {
            return refuseBad(NOT_A_PAIR);
        }
        trial.play(now.lane, i, aunt, c);
        return k == NONE ? trial.restingPairs() : trial.restingPair(k);
    }

    public int slips(int c, int o) {
        if (notAsked(c) || outside(o, 0, 10)) {
            return refuseBad(BAD);
        }
        long whole = power(10, Integer.bitCount(now.lane.there));
        fraction.become(trial.soundingShare(now.lane, c, o), whole);
        return 1;
    }

    public int reigns(int seed, int n) {
        if (outside(seed, 0, MOST_SEED) || outside(n, 0, AHEAD)) {
            return refuseBad(BAD);
        }
        return trial.soundOfReign(now.lane, seed, n);
    }

    // ---- what there is

    public long part(int what) {
        if (outside(what, 0, 1)) {
            return refuseBad(BAD);
        }
        return what == 0 ? fraction.above : fraction.below;
    }

    public int image(int i) {
        if (outside(i, 0, 1)) {
            return refuseBad(BAD);
        }
        if (i == 0) {
            firstImage.copyFrom(now);
            firstKept = true;
        } else {
            secondImage.copyFrom(now);
            secondKept = true;
        }
        return 1;
    }

    public int from(int i) {
        if (outside(i, 0, 1)) {
            return refuseBad(BAD);
        }
        boolean kept = i == 0 ? firstKept : secondKept;
        if (!kept) {
            return refuseNo();
        }
        now.copyFrom(i == 0 ? firstImage : secondImage);
        return 1;
    }

    public int status(int what) {
        switch (what) {
            case 0:
                return badCalls;
            case 1:
                return noCalls;
            case 2:
                return fullCalls;
            default:
                return refuseBad(NONE);
        }
    }

    public int count(int what) {
        if (outside(what, 0, LAST_COUNTED)) {
            return refuseBad(BAD);
        }
        return numberOf(what);
    }

    public long digest() {
        long h = FIRST_DIGEST;
        for (int what = 0; what <= LAST_COUNTED; what++) {
            h = folded(h, numberOf(what));
        }
        h = now.foldedInto(h);
        h = folded(h, fraction.above);
        return folded(h, fraction.below);
    }

    // ---- helpers of the face

    private int numberOf(int what) {
        switch (what) {
            case 0:
                return now.lane.people;
            case 1:
                return now.lane.aunts;
            case 2:
                return Integer.bitCount(now.lane.there);
            case 3:
                return now.lane.time;
            case 4:
                return now.lane.noise;
            case 5:
                return now.lane.width;
            case 6:
                return now.soundings.size;
            case 7:
                return now.notes.size;
            case 8:
                return now.marks.size;
            case 9:
                return now.past.size;
            default:
                return text.length;
        }
    }

    private int added(Rows rows, boolean hadRoom) {
        if (rows == null || !hadRoom) {
            return refuseFull();
        }
        return rows.size;
    }

    private int refuseBad(int answer) {
        badCalls++;
        return answer;
    }

    private int refuseNo() {
        noCalls++;
        return NO;
    }

    private int refuseFull() {
        fullCalls++;
        return FULL;
    }

    private static boolean outside(int number, int least, int most) {
        return number < least || number > most;
    }

    private static boolean notKind(int kind) {
        return outside(kind, 0, KIND_COUNT - 1);
    }

    private static boolean notHouse(int house) {
        return outside(house, 0, 1);
    }

    private static boolean notSwing(int a) {
        return outside(a, 0, MOST_SWING);
    }

    private static boolean notAsked(int c) {
        return outside(c, 0, LAST_ASKED);
    }

    private static boolean notLean(int x) {
        return outside(x, -MOST_LEAN, MOST_LEAN);
    }

    private static boolean hasBit(int bits, int i) {
        return (bits >> i & 1) == 1;
    }

    private static long folded(long h, long v) {
        return 31 * h + v;
    }

    private static void copyInto(int[] source, int[] target) {
        if (source == null || target == null) {
            return;
        }
        for (int k = 0; k < source.length && k < target.length; k++) {
            target[k] = source[k];
        }
    }

    private static long power(long base, int exponent) {
        long product = 1;
        for (int k = 0; k < exponent; k++) {
            product *= base;
        }
        return product;
    }

    /** How far people of each kind lean, and how far aunts of each kind let them. */
    private static final class Kinds {
        private static final int GIRL = 1, ELDER = 2, CHOKE = 3, WAVER = 4, BRASS = 5;
        private static final int FEATHER = 1, STRICT = 2, SOFT = 3, DEAF = 4, GREAT = 5;

        static int leanAs(int kind, int swing, int c) {
            int beat = (kind == WAVER ? c + 1 : c) % 4;
            int plain = beat == 1 ? swing : beat == 3 ? -swing : 0;
            switch (kind) {
                case GIRL:
                case WAVER:
                    return plain > 0 ? plain + 1 : plain;
                case ELDER:
                    return plain / 2;
                case CHOKE:
                    return c % 3 == 0 ? 0 : plain;
                case BRASS:
                    return 3 * (plain / 2);
                default:
                    return plain;
            }
        }

        static int dampAs(int kind, int x, int c) {
            int once = x > 2 ? x - 2 : x > 0 ? 0 : x;
            int twice = once > 2 ? once - 2 : once > 0 ? 0 : once;
            int soft = c % 2 == 0 ? once : x;
            switch (kind) {
                case FEATHER:
                    return x > 8 ? x / 2 : once;
                case STRICT:
                    return twice;
                case SOFT:
                    return soft;
                case DEAF:
                    return c % 5 == 4 ? x : soft;
                case GREAT:
                    return c % 4 == 0 ? 0 : twice;
                default:
                    return once;
            }
        }
    }

    /** The lane, who lives along it, the counts gone by and the noise. */
    private static final class Lane {
        static final int SAVED_LENGTH = 3 + MOST_PEOPLE;

        int width = FIRST_WIDTH;
        int people;
        private final int[] kind = new int[MOST_PEOPLE];
        private final int[] house = new int[MOST_PEOPLE];
        private final int[] swing = new int[MOST_PEOPLE];
        int aunts;
        private final int[] auntKind = new int[MOST_AUNTS];
        private final int[] auntHouse = new int[MOST_AUNTS];
        int there;
        int time;
        int noise;

        void startAgain(int newWidth) {
            width = newWidth;
            people = 0;
            aunts = 0;
            there = 0;
            time = 0;
            noise = 0;
        }

        void copyFrom(Lane other) {
            if (other == null) {
                return;
            }
            width = other.width;
            people = other.people;
            aunts = other.aunts;
            there = other.there;
            time = other.time;
            noise = other.noise;
            copyInto(other.kind, kind);
            copyInto(other.house, house);
            copyInto(other.swing, swing);
            copyInto(other.auntKind, auntKind);
            copyInto(other.auntHouse, auntHouse);
        }

        boolean addOne(int newKind, int newHouse, int newSwing) {
            if (outside(people, 0, MOST_PEOPLE - 1)) {
                return false;
            }
            kind[people] = newKind;
            house[people] = newHouse;
            swing[people] = newSwing;
            people++;
            return true;
        }

        boolean addAunt(int newKind, int newHouse) {
            if (outside(aunts, 0, MOST_AUNTS - 1)) {
                return false;
            }
            auntKind[aunts] = newKind;
            auntHouse[aunts] = newHouse;
            there |= 1 << aunts;
            aunts++;
            return true;
        }

        boolean hasOne(int i) {
            return i >= 0 && i < people && i < MOST_PEOPLE;
        }

        boolean hasAunt(int i) {
            return i >= 0 && i < aunts && i < MOST_AUNTS;
        }

        boolean isThere(int i) {
            return hasAunt(i) && hasBit(there, i);
        }

        void setThere(int i, boolean is) {
            if (hasAunt(i)) {
                there = is ? there | 1 << i : there & ~(1 << i);
            }
        }

        int houseOf(int i) {
            return hasOne(i) ? house[i] : NONE;
        }

        int swingOf(int i) {
            return hasOne(i) ? swing[i] : 0;
        }

        void setSwing(int i, int a) {
            if (hasOne(i)) {
                swing[i] = a;
            }
        }

        int factOfOne(int i, int what) {
            if (!hasOne(i)) {
                return 0;
            }
            if (what == 0) {
                return kind[i];
            }
            return what == 1 ? house[i] : swing[i];
        }

        int factOfAunt(int i, int what) {
            if (!hasAunt(i)) {
                return 0;
            }
            if (what == 0) {
                return auntKind[i];
            }
            if (what == 1) {
                return auntHouse[i];
            }
            return isThere(i) ? 1 : 0;
        }

        int leanOf(int i, int c) {
            return hasOne(i) ? Kinds.leanAs(kind[i], swing[i], c) : 0;
        }

        int leaningOf(int i, int c) {
            if (!hasOne(i)) {
                return 0;
            }
            int x = Kinds.leanAs(kind[i], swing[i], c);
            for (int j = 0; j < aunts && j < MOST_AUNTS; j++) {
                if (hasBit(there, j) && auntHouse[j] == house[i]) {
                    x = Kinds.dampAs(auntKind[j], x, c);
                }
            }
            return x;
        }

        int soundAt(int c) {
            int loud = 0;
            for (int i = 0; i < people; i++) {
                int near = houseOf(i) == 0 ? leaningOf(i, c) : 0;
                for (int j = 0; near >= 1 && j < people; j++) {
                    int far = houseOf(j) == 1 ? leaningOf(j, c) : 0;
                    if (far >= 1 && near + far >= width) {
                        loud += 1 + near + far - width;
                    }
                }
            }
            return loud;
        }

        boolean soundsAt(int c) {
            return reachAt(c, NONE) >= width;
        }

        /** How wide a lane at most would sound at count c without the one left out; 0: none would. */
        int reachAt(int c, int leftOut) {
            int near = 0;
            int far = 0;
            for (int i = 0; i < people; i++) {
                // Nobody is damped from 0 or below to above 0, so only those who lean can touch.
                int x = i != leftOut && leanOf(i, c) >= 1 ? leaningOf(i, c) : 0;
                if (houseOf(i) == 0) {
                    near = Math.max(near, x);
                } else {
                    far = Math.max(far, x);
                }
            }
            return near >= 1 && far >= 1 ? near + far : 0;
        }

        int firstSounding(int howMany) {
            for (int d = 0; d < howMany; d++) {
                if (soundsAt(time + d)) {
                    return d;
                }
            }
            return NONE;
        }

        int widestSounding(int howMany) {
            int reach = 0;
            for (int d = 0; d < howMany; d++) {
                reach = Math.max(reach, reachAt(time + d, NONE));
            }
            return reach >= LEAST_WIDTH ? Math.min(reach, MOST_WIDTH) : NONE;
        }

        int neededAt(int c) {
            int bits = 0;
            if (soundsAt(c)) {
                for (int i = 0; i < people; i++) {
                    if (reachAt(c, i) < width) {
                        bits |= 1 << i;
                    }
                }
            }
            return bits;
        }

        void passUpTo(int howMany, int lastTime) {
            for (int k = 0; k < howMany && time < lastTime; k++) {
                noise = Math.min(MOST_NOISE, noise / 2 + soundAt(time));
                time++;
            }
        }

        void saveInto(int[] row, int at) {
            if (row == null || at < 0 || at > row.length - SAVED_LENGTH) {
                return;
            }
            row[at] = time;
            row[at + 1] = noise;
            row[at + 2] = there;
            for (int i = 0; i < MOST_PEOPLE; i++) {
                row[at + 3 + i] = swing[i];
            }
        }

        void restoreFrom(int[] row, int at) {
            if (row == null || at < 0 || at > row.length - SAVED_LENGTH) {
                return;
            }
            time = row[at];
            noise = row[at + 1];
            there = row[at + 2];
            for (int i = 0; i < MOST_PEOPLE; i++) {
                swing[i] = row[at + 3 + i];
            }
        }

        long foldedInto(long start) {
            long h = start;
            for (int i = 0; i < people; i++) {
                for (int what = 0; what <= 2; what++) {
                    h = folded(h, factOfOne(i, what));
                }
            }
            for (int i = 0; i < aunts; i++) {
                for (int what = 0; what <= 2; what++) {
                    h = folded(h, factOfAunt(i, what));
                }
            }
            return h;
        }
    }

    /** At most six rows of numbers, as they come. */
    private static final class Rows {
        int size;
        private final int[] cells = new int[MOST_ROWS * ROW_LENGTH];

        boolean add(int a, int b, int c, int d) {
            if (outside(size, 0, MOST_ROWS - 1)) {
                return false;
            }
            int at = size * ROW_LENGTH;
            cells[at] = a;
            cells[at + 1] = b;
            cells[at + 2] = c;
            cells[at + 3] = d;
            size++;
            return true;
        }

        int cell(int row, int column) {
            if (outside(row, 0, MOST_ROWS - 1) || outside(column, 0, ROW_LENGTH - 1)) {
                return 0;
            }
            return cells[row * ROW_LENGTH + column];
        }

        int forgetAll() {
            int before = size;
            size = 0;
            return before;
        }

        void copyFrom(Rows other) {
            if (other != null) {
                size = other.size;
                copyInto(other.cells, cells);
            }
        }

        long foldedInto(long start, int columns) {
            long h = start;
            for (int row = 0; row < size; row++) {
                for (int column = 0; column < columns; column++) {
                    h = folded(h, cell(row, column));
                }
            }
            return h;
        }
    }

    /** How the lane was ahead of the last changes that may be undone, the newest last. */
    private static final class Past {
        int size;
        private final int[] saved = new int[MOST_UNDONE * Lane.SAVED_LENGTH];

        void keep(Lane lane) {
            if (lane == null) {
                return;
            }
            if (size >= MOST_UNDONE) {
                dropOldest();
            }
            lane.saveInto(saved, size * Lane.SAVED_LENGTH);
            size++;
        }

        private void dropOldest() {
            for (int k = Lane.SAVED_LENGTH; k < saved.length; k++) {
                saved[k - Lane.SAVED_LENGTH] = saved[k];
            }
            size = MOST_UNDONE - 1;
        }

        boolean takeBack(Lane lane) {
            if (lane == null || outside(size, 1, MOST_UNDONE)) {
                return false;
            }
            size--;
            lane.restoreFrom(saved, size * Lane.SAVED_LENGTH);
            return true;
        }

        void forgetAll() {
            size = 0;
        }

        void copyFrom(Past other) {
            if (other != null) {
                size = other.size;
                copyInto(other.saved, saved);
            }
        }
    }

    /** All that an image keeps. */
    private static final class Houses {
        final Lane lane = new Lane();
        final Rows soundings = new Rows();
        final Rows notes = new Rows();
        final Rows marks = new Rows();
        final Past past = new Past();

        void startAgain(int width) {
            lane.startAgain(width);
            soundings.forgetAll();
            notes.forgetAll();
            marks.forgetAll();
            past.forgetAll();
        }

        void copyFrom(Houses other) {
            if (other == null) {
                return;
            }
            lane.copyFrom(other.lane);
            soundings.copyFrom(other.soundings);
            notes.copyFrom(other.notes);
            marks.copyFrom(other.marks);
            past.copyFrom(other.past);
        }

        long foldedInto(long start) {
            long h = lane.foldedInto(start);
            h = soundings.foldedInto(h, 2);
            h = notes.foldedInto(h, ROW_LENGTH);
            return marks.foldedInto(h, ROW_LENGTH);
        }
    }

    /** What would be if something were otherwise, played on a lane of its own. */
    private static final class Trial {
        private static final int AUNT_SETS = 1 << MOST_AUNTS, PAIRS = 2 * SWING_COUNT;
        private static final int HEARABLE = 24;
        private static final long FACTOR = 1103515245L, TERM = 12345L, MODULUS = 2147483648L;

        final Lane lane = new Lane();
        private final int[] pairSound = new int[PAIRS];

        int noiseBehind(Lane now, int m) {
            lane.copyFrom(now);
            lane.passUpTo(m, lane.time + m);
            return lane.noise;
        }

        int fewestAunts(Lane now, int m) {
            lane.copyFrom(now);
            int best = NONE;
            for (int bits = 0; bits < 1 << lane.aunts && bits < AUNT_SETS; bits++) {
                boolean fewer = best == NONE || Integer.bitCount(bits) < Integer.bitCount(best);
                lane.there = bits;
                if (fewer && lane.firstSounding(m) == NONE) {
                    best = bits;
                }
            }
            return best;
        }

        int leastPush(Lane now, int i, int c) {
            lane.copyFrom(now);
            for (int a = 0; a <= MOST_SWING; a++) {
                lane.setSwing(i, a);
                if (lane.soundsAt(c)) {
                    return a;
                }
            }
            return NONE;
        }

        int lanesThatFit(Lane now, Rows soundings) {
            lane.copyFrom(now);
            int bits = 0;
            for (int k = 0; k < WIDTHS; k++) {
                lane.width = LEAST_WIDTH + k;
                if (fits(soundings)) {
                    bits |= 1 << k;
                }
            }
            return bits;
        }

        int swingsThatFit(Lane now, Rows soundings, int i) {
            lane.copyFrom(now);
            int bits = 0;
            for (int a = 0; a <= MOST_SWING; a++) {
                lane.setSwing(i, a);
                if (fits(soundings)) {
                    bits |= 1 << a;
                }
            }
            return bits;
        }

        private boolean fits(Rows soundings) {
            if (soundings == null) {
                return true;
            }
            for (int k = 0; k < soundings.size; k++) {
                boolean sounded = soundings.cell(k, 1) == 1;
                if (lane.soundsAt(soundings.cell(k, 0)) != sounded) {
                    return false;
                }
            }
            return true;
        }

        /** The count that parts the lanes of these bits best. */
        static int bestCount(Lane now, int bits) {
            int best = NONE;
            int least = WIDTHS + 1;
            for (int c = 0; now != null && bits != 0 && c < HEARABLE; c++) {
                int sounding = Integer.bitCount(bits & lanesUpTo(now.reachAt(c, NONE)));
                int greater = Math.max(sounding, Integer.bitCount(bits) - sounding);
                if (greater < least) {
                    least = greater;
                    best = c;
                }
            }
            return best;
        }

        private static int lanesUpTo(int width) {
            int howMany = Math.max(0, Math.min(width, MOST_WIDTH) - LEAST_WIDTH + 1);
            return (1 << howMany) - 1;
        }

        void play(Lane now, int i, int aunt, int c) {
            lane.copyFrom(now);
            for (int pair = 0; pair < PAIRS; pair++) {
                lane.setSwing(i, pair % SWING_COUNT);
                lane.setThere(aunt, pair >= SWING_COUNT);
                pairSound[pair] = lane.soundAt(c);
            }
        }

        int restingPairs() {
            int howMany = 0;
            for (int pair = 0; pair < PAIRS; pair++) {
                if (rests(pair)) {
                    howMany++;
                }
            }
            return howMany;
        }

        int restingPair(int k) {
            int before = 0;
            for (int pair = 0; pair < PAIRS; pair++) {
                if (rests(pair)) {
                    if (before == k) {
                        return pair;
                    }
                    before++;
                }
            }
            return NOT_SO_MANY;
        }

        private boolean rests(int pair) {
            int first = pair - pair % SWING_COUNT;
            for (int a = 0; a < SWING_COUNT; a++) {
                if (swingerGets(first + a) > swingerGets(pair)) {
                    return false;
                }
            }
            return auntGets((pair + SWING_COUNT) % PAIRS) <= auntGets(pair);
        }

        private int swingerGets(int pair) {
            return soundOfPair(pair) - pair % SWING_COUNT;
        }

        private int auntGets(int pair) {
            return -soundOfPair(pair) - (pair >= SWING_COUNT ? 2 : 0);
        }

        private int soundOfPair(int pair) {
            return outside(pair, 0, PAIRS - 1) ? 0 : pairSound[pair];
        }

        /** Of 10 to the number of aunts there, how many parts sound, if each slips by o of 10. */
        long soundingShare(Lane now, int c, int o) {
            lane.copyFrom(now);
            int there = lane.there;
            long share = 0;
            for (int away = 0; away < AUNT_SETS; away++) {
                if ((away & ~there) == 0) {
                    int staying = there & ~away;
                    lane.there = staying;
                    if (lane.soundsAt(c)) {
                        share += power(o, Integer.bitCount(away)) * power(10 - o, Integer.bitCount(staying));
                    }
                }
            }
            return share;
        }

        int soundOfReign(Lane now, int seed, int n) {
            lane.copyFrom(now);
            long x = seed;
            int together = 0;
            for (int k = 0; k < n; k++) {
                x = (x * FACTOR + TERM) % MODULUS;
                lane.setSwing((int) (x / 65536 % MOST_PEOPLE), (int) (x / 1048576 % SWING_COUNT));
                together += lane.soundAt(lane.time + k);
            }
            return together;
        }
    }

    /** Which kinds fit what was noted and marked, and what would tell most of them apart. */
    private static final class Guess {
        private static final int LOOK_COUNTS = 12, ASK_COUNTS = 10, ASK_LEANS = 16;

        private final int[] told = new int[KIND_COUNT];

        static int kindsOfOne(Rows notes, int i) {
            int bits = 0;
            for (int kind = 0; notes != null && kind < KIND_COUNT; kind++) {
                boolean fits = true;
                for (int k = 0; k < notes.size; k++) {
                    int lean = Kinds.leanAs(kind, notes.cell(k, 1), notes.cell(k, 2));
                    fits = fits && (notes.cell(k, 0) != i || lean == notes.cell(k, 3));
                }
                bits |= fits ? 1 << kind : 0;
            }
            return bits;
        }

        static int kindsOfAunt(Rows marks, int i) {
            int bits = 0;
            for (int kind = 0; marks != null && kind < KIND_COUNT; kind++) {
                boolean fits = true;
                for (int k = 0; k < marks.size; k++) {
                    int left = Kinds.dampAs(kind, marks.cell(k, 1), marks.cell(k, 2));
                    fits = fits && (marks.cell(k, 0) != i || left == marks.cell(k, 3));
                }
                bits |= fits ? 1 << kind : 0;
            }
            return bits;
        }

        int bestLook(int bits) {
            int best = NONE;
            int fewest = KIND_COUNT + 1;
            for (int question = 0; bits != 0 && question < LOOK_COUNTS * SWING_COUNT; question++) {
                for (int kind = 0; kind < KIND_COUNT; kind++) {
                    told[kind] = Kinds.leanAs(kind, question % SWING_COUNT, question / SWING_COUNT);
                }
                int alike = mostAlike(bits);
                if (alike < fewest) {
                    fewest = alike;
                    best = question;
                }
            }
            return best;
        }

        int bestAsk(int bits) {
            int best = NONE;
            int fewest = KIND_COUNT + 1;
            for (int question = 0; bits != 0 && question < ASK_COUNTS * ASK_LEANS; question++) {
                int c = question / ASK_LEANS;
                int x = question % ASK_LEANS;
                for (int kind = 0; kind < KIND_COUNT; kind++) {
                    told[kind] = Kinds.dampAs(kind, x, c);
                }
                int alike = mostAlike(bits);
                if (alike < fewest) {
                    fewest = alike;
                    best = 100 * c + x;
                }
            }
            return best;
        }

        private int mostAlike(int bits) {
            int most = 0;
            for (int kind = 0; kind < KIND_COUNT; kind++) {
                int alike = 0;
                for (int other = 0; other < KIND_COUNT; other++) {
                    if (hasBit(bits, kind) && hasBit(bits, other) && told[kind] == told[other]) {
                        alike++;
                    }
                }
                most = Math.max(most, alike);
            }
            return most;
        }
    }

    /** Marriages across the lane of those who lean alike. */
    private static final class Wedding {
        private static final int COMPARED = 4, MOST_UNLIKE = 2;

        int pairs;
        private final int[] suitors = new int[MOST_PEOPLE];
        private final int[] partner = new int[MOST_PEOPLE];

        int partnerOf(int i) {
            return outside(i, 0, MOST_PEOPLE - 1) ? NONE : partner[i];
        }

        void arrange(Lane lane) {
            if (lane == null) {
                return;
            }
            for (int i = 0; i < MOST_PEOPLE; i++) {
                partner[i] = NONE;
                suitors[i] = suitorsOf(lane, i);
            }
            pairs = mostPairs(suitors, 0, 0);
            int taken = 0;
            int made = 0;
            for (int i = 0; i < MOST_PEOPLE; i++) {
                int j = firstChoice(i, taken, pairs - made);
                if (!outside(j, 0, MOST_PEOPLE - 1)) {
                    partner[i] = j;
                    partner[j] = i;
                    taken |= 1 << j;
                    made++;
                }
            }
        }

        /** Whom of house 1 one of house 0 may marry, as bits; 0 for anybody else. */
        private static int suitorsOf(Lane lane, int i) {
            int bits = 0;
            if (lane != null && lane.houseOf(i) == 0) {
                for (int j = 0; j < lane.people; j++) {
                    if (lane.houseOf(j) == 1 && leanAlike(lane, i, j)) {
                        bits |= 1 << j;
                    }
                }
            }
            return bits;
        }

        private static boolean leanAlike(Lane lane, int i, int j) {
            for (int c = 0; lane != null && c < COMPARED; c++) {
                if (Math.abs(lane.leanOf(i, c) - lane.leanOf(j, c)) > MOST_UNLIKE) {
                    return false;
                }
            }
            return true;
        }

        /** The most pairs among people from i on; i is the depth, and ends it at MOST_PEOPLE. */
        private static int mostPairs(int[] suitors, int i, int taken) {
            if (suitors == null || i < 0 || i >= suitors.length || i >= MOST_PEOPLE) {
                return 0;
            }
            int most = mostPairs(suitors, i + 1, taken);
            for (int j = 0; j < MOST_PEOPLE; j++) {
                if (hasBit(suitors[i] & ~taken, j)) {
                    most = Math.max(most, 1 + mostPairs(suitors, i + 1, taken | 1 << j));
                }
            }
            return most;
        }

        /** The first choice of one by which as many pairs as are missing still come to be. */
        private int firstChoice(int i, int taken, int missing) {
            if (outside(i, 0, MOST_PEOPLE - 1) || mostPairs(suitors, i + 1, taken) == missing) {
                return NONE;
            }
            for (int j = 0; j < MOST_PEOPLE; j++) {
                if (hasBit(suitors[i] & ~taken, j)
                        && 1 + mostPairs(suitors, i + 1, taken | 1 << j) == missing) {
                    return j;
                }
            }
            return NONE;
        }
    }

    /** A chance in lowest terms. */
    private static final class Fraction {
        private static final int MOST_STEPS = 100;

        long above;
        long below = 1;

        void become(long newAbove, long newBelow) {
            long divisor = commonDivisor(newAbove, newBelow);
            if (divisor > 0) {
                above = newAbove / divisor;
                below = newBelow / divisor;
            }
        }

        private static long commonDivisor(long a, long b) {
            for (int k = 0; k < MOST_STEPS && b != 0; k++) {
                long rest = a % b;
                a = b;
                b = rest;
            }
            return a;
        }
    }

    /** The text, and how houses are read from it, token by token. */
    private static final class Text {
        private static final int FAULT_BASE = -10, BLANK = 32, MOST_FIGURES = 2;
        private static final int AT_END = 0, WORD = 1, NUMBER = 2, SEMICOLON = 3, STRANGE = 4;
        private static final int NO_WORD = 0, LANE = 1, ONE = 2, AUNT = 3, AWAY = 4, COUNTS = 5;

        int length;
        private final int[] bytes = new int[MOST_BYTES];
        private int token, tokenStart, tokenEnd;
        private final int[] numbers = new int[3];

        boolean append(int c) {
            if (outside(length, 0, MOST_BYTES - 1)) {
                return false;
            }
            bytes[length] = c;
            length++;
            return true;
        }

        /** How many items were read into the lane; FAULT_BASE less the fault. */
        int readInto(Lane lane) {
            if (lane == null) {
                return FAULT_BASE;
            }
            lane.startAgain(FIRST_WIDTH);
            tokenEnd = 0;
            for (int items = 0; items <= MOST_BYTES; items++) {
                nextToken();
                if (token == AT_END && items > 0) {
                    return items;
                }
                int word = wordHere();
                if (!mayStand(word, lane, items == 0) || !readNumbers(word, lane) || !takeSemicolon()) {
                    break;
                }
                carryOut(word, lane);
            }
            // The last token looked at is the first that can not stand there.
            return FAULT_BASE - tokenStart;
        }

        private static boolean mayStand(int word, Lane lane, boolean isFirst) {
            if (lane == null || word == NO_WORD || isFirst != (word == LANE)) {
                return false;
            }
            if (word == ONE) {
                return lane.people < MOST_PEOPLE;
            }
            return word != AUNT || lane.aunts < MOST_AUNTS;
        }

        private boolean readNumbers(int word, Lane lane) {
            switch (word) {
                case LANE:
                    return takeNumber(0, LEAST_WIDTH, MOST_WIDTH);
                case ONE:
                    return takeNumber(0, 0, KIND_COUNT - 1) && takeNumber(1, 0, 1)
                            && takeNumber(2, 0, MOST_SWING);
                case AUNT:
                    return takeNumber(0, 0, KIND_COUNT - 1) && takeNumber(1, 0, 1);
                case AWAY:
                    return lane != null && takeNumber(0, 0, lane.aunts - 1);
                case COUNTS:
                    return takeNumber(0, 1, MOST_AT_ONCE);
                default:
                    return false;
            }
        }

        private void carryOut(int word, Lane lane) {
            if (lane == null) {
                return;
            }
            switch (word) {
                case LANE:
                    lane.width = numbers[0];
                    break;
                case ONE:
                    lane.addOne(numbers[0], numbers[1], numbers[2]);
                    break;
                case AUNT:
                    lane.addAunt(numbers[0], numbers[1]);
                    break;
                case AWAY:
                    lane.setThere(numbers[0], false);
                    break;
                default:
                    lane.passUpTo(numbers[0], MOST_COUNT);
                    break;
            }
        }

        private boolean takeNumber(int place, int least, int most) {
            nextToken();
            if (token != NUMBER || tokenEnd - tokenStart > MOST_FIGURES
                    || place < 0 || place >= numbers.length) {
                return false;
            }
            int number = 0;
            for (int k = tokenStart; k < tokenEnd; k++) {
                number = 10 * number + byteAt(k) - '0';
            }
            numbers[place] = number;
            return !outside(number, least, most);
        }

        private boolean takeSemicolon() {
            nextToken();
            return token == SEMICOLON;
        }

        private int wordHere() {
            if (token != WORD) {
                return NO_WORD;
            }
            if (wordIs("lane")) {
                return LANE;
            }
            if (wordIs("one")) {
                return ONE;
            }
            if (wordIs("aunt")) {
                return AUNT;
            }
            if (wordIs("away")) {
                return AWAY;
            }
            return wordIs("counts") ? COUNTS : NO_WORD;
        }

        private boolean wordIs(String word) {
            if (word == null || word.length() != tokenEnd - tokenStart) {
                return false;
            }
            for (int k = 0; k < word.length(); k++) {
                if (word.charAt(k) != byteAt(tokenStart + k)) {
                    return false;
                }
            }
            return true;
        }

        private void nextToken() {
            int at = tokenEnd;
            while (at < length && byteAt(at) == BLANK) {
                at++;
            }
            tokenStart = at;
            token = at < length ? classOf(byteAt(at)) : AT_END;
            if (token != AT_END) {
                at++;
            }
            boolean runs = token == WORD || token == NUMBER;
            while (runs && at < length && classOf(byteAt(at)) == token) {
                at++;
            }
            tokenEnd = at;
        }

        private static int classOf(int c) {
            if (c >= 'a' && c <= 'z') {
                return WORD;
            }
            if (c >= '0' && c <= '9') {
                return NUMBER;
            }
            return c == ';' ? SEMICOLON : STRANGE;
        }

        private int byteAt(int at) {
            return at >= 0 && at < MOST_BYTES ? bytes[at] : 0;
        }
    }
}
