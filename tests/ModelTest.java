import java.lang.reflect.Method;
import java.lang.reflect.Modifier;
import java.util.ArrayList;
import java.util.Comparator;
import java.util.List;
import java.util.Random;

/** Long random runs: each answer of LaneCymbals is the one of the plain Model, the digest, too. */
public final class ModelTest {
    private static final int RUNS = 600, CALLS = 500;
    private static final String[] SCRAPS = {"lane ", "lane", "one ", "one", "aunt ", "away ", "counts ", ";", ";",
        ";", " ", "  ", "0", "1", "2", "4", "5", "9", "12", "30", "31", "99", "100", "x", "{", "-"};

    private final Random random;
    private final LaneCymbals real = new LaneCymbals();
    private final Model model = new Model();
    private final StringBuilder story = new StringBuilder();
    private int calls;

    private ModelTest(int seed) {
        random = new Random(seed);
    }

    public static void main(String[] args) throws Exception {
        List<Method> methods = new ArrayList<>();
        for (Method m : LaneCymbals.class.getDeclaredMethods()) {
            if (Modifier.isPublic(m.getModifiers())) {
                methods.add(m);
            }
        }
        methods.sort(Comparator.comparing(Method::getName));
        for (int run = 0; run < RUNS; run++) {
            new ModelTest(run).play(methods);
        }
        Check.end();
    }

    private void play(List<Method> methods) throws Exception {
        begin();
        while (calls < CALLS) {
            Method m = methods.get(random.nextInt(methods.size()));
            boolean rare = List.of("lane", "read", "clear", "wide", "one", "aunt").contains(m.getName());
            if (rare && random.nextInt(8) > 0) {
                continue;
            }
            if (m.getName().equals("read") && random.nextInt(2) == 0 && calls < CALLS - 160) {
                typeAnything();
            }
            Object[] numbers = numbersFor(m);
            if (!both(m.getName(), numbers) || !both("digest")) {
                System.out.println(story);
                return;
            }
        }
    }

    /** Most runs begin with a full lane, some near the last count. */
    private void begin() throws Exception {
        both("lane", 4 + random.nextInt(random.nextBoolean() ? 12 : 27));
        int people = random.nextInt(8);
        for (int k = 0; k < people; k++) {
            both("one", random.nextInt(6), random.nextInt(2), 9 - random.nextInt(random.nextBoolean() ? 10 : 4));
        }
        int aunts = random.nextInt(5);
        for (int k = 0; k < aunts; k++) {
            both("aunt", random.nextInt(6), random.nextInt(2));
        }
        if (random.nextInt(10) == 0) {
            for (int k = 0; k < 101; k++) {
                both("counts", 99);
            }
        }
    }

    private void typeAnything() throws Exception {
        both("clear");
        StringBuilder text = new StringBuilder();
        if (random.nextInt(4) > 0) {
            text.append("lane ").append(4 + random.nextInt(20)).append(';');
        }
        while (text.length() < random.nextInt(150)) {
            text.append(random.nextInt(5) > 0 ? item() : SCRAPS[random.nextInt(SCRAPS.length)]);
        }
        for (int k = 0; k < text.length(); k++) {
            both("type", (int) text.charAt(k));
        }
    }

    private String item() {
        String blank = random.nextInt(3) > 0 ? " " : "  ";
        return switch (random.nextInt(5)) {
            case 0, 1 -> "one" + blank + random.nextInt(6) + blank + random.nextInt(2) + " " + random.nextInt(10) + ";";
            case 2 -> "aunt" + random.nextInt(6) + blank + random.nextInt(2) + blank + ";";
            case 3 -> "away " + random.nextInt(2) + ";" + blank;
            default -> "counts" + blank + random.nextInt(100) + ";";
        };
    }

    private Object[] numbersFor(Method m) {
        int[] most = mostOf(m.getName());
        Object[] numbers = new Object[m.getParameterCount()];
        boolean odd = random.nextInt(20) == 0;
        for (int k = 0; k < numbers.length; k++) {
            numbers[k] = odd ? random.nextInt(most[k] + 4) - 2 : random.nextInt(most[k] + 1);
        }
        if (m.getName().equals("note") || m.getName().equals("mark")) {
            fitNumbers(m.getName().equals("note"), numbers, odd);
        }
        if (m.getName().equals("game") && random.nextInt(3) == 0 || m.getName().equals("marry") && random.nextBoolean()) {
            numbers[numbers.length - 1] = -1;
        }
        return numbers;
    }

    /** Notes and marks that some kind fits, mostly; else none would be left at once. */
    private void fitNumbers(boolean isNote, Object[] numbers, boolean odd) {
        int kind = random.nextInt(6);
        int c = (Integer) numbers[2];
        if (!isNote) {
            numbers[1] = (Integer) numbers[1] - 20;
        }
        numbers[3] = (Integer) numbers[3] - 20;
        LaneCymbals alone = new LaneCymbals();
        if (isNote && !odd) {
            alone.one(kind, 0, (Integer) numbers[1]);
            numbers[3] = alone.leans(0, c, 0);
        } else if (!odd && random.nextInt(4) > 0) {
            int x = (Integer) numbers[1];
            numbers[3] = kind % 2 == 0 ? x : x > 2 ? x - 2 : Math.min(x, 0);
        }
    }

    private static int[] mostOf(String name) {
        return switch (name) {
            case "lane", "wide" -> new int[] {30};
            case "one" -> new int[] {5, 1, 9};
            case "aunt" -> new int[] {5, 1};
            case "type" -> new int[] {127};
            case "counts", "sound", "wrong" -> new int[] {99};
            case "swings" -> new int[] {6, 9};
            case "sends" -> new int[] {3, 1};
            case "of" -> new int[] {6, 2};
            case "about" -> new int[] {3, 2};
            case "leans" -> new int[] {6, 99, 1};
            case "then", "still" -> new int[] {60};
            case "push" -> new int[] {6, 99};
            case "marry", "swung", "is", "look" -> new int[] {6};
            case "heard" -> new int[] {99, 1};
            case "note" -> new int[] {6, 9, 99, 40};
            case "mark" -> new int[] {3, 40, 99, 40};
            case "forget", "status" -> new int[] {2};
            case "kinds", "ask" -> new int[] {3};
            case "game" -> new int[] {6, 3, 99, 12};
            case "slips" -> new int[] {99, 10};
            case "reigns" -> new int[] {999999, 60};
            case "part", "image", "from" -> new int[] {1};
            case "count" -> new int[] {10};
            default -> new int[0];
        };
    }

    private boolean both(String name, Object... numbers) throws Exception {
        Class<?>[] types = new Class<?>[numbers.length];
        java.util.Arrays.fill(types, int.class);
        long want = ((Number) Model.class.getDeclaredMethod(name, types).invoke(model, numbers)).longValue();
        long got = ((Number) LaneCymbals.class.getMethod(name, types).invoke(real, numbers)).longValue();
        String call = name + java.util.Arrays.toString(numbers);
        if (!name.equals("digest")) {
            story.append(call).append(' ');
        }
        calls++;
        Check.due(call, got, want);
        return got == want;
    }
}
