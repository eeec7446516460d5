import java.io.IOException;
import java.lang.reflect.Executable;
import java.lang.reflect.Field;
import java.lang.reflect.Method;
import java.lang.reflect.Modifier;
import java.nio.file.Files;
import java.nio.file.Path;
import java.util.Random;
import java.util.Set;
import java.util.TreeSet;
import java.util.regex.Matcher;
import java.util.regex.Pattern;

/** The public face as the document tells it, rules of LANGUAGE.md, and that no call ever throws. */
public final class FaceTest {
    private static final String FACE = "lane(int) wide(int) one(int,int,int) aunt(int,int) type(int) clear()"
            + " read() counts(int) swings(int,int) sends(int,int) undo() of(int,int) about(int,int)"
            + " leans(int,int,int) sound(int) entry() then(int) still(int) push(int,int) widest() wrong(int)"
            + " marry(int) heard(int,int) lanes() swung(int) hear() note(int,int,int,int)"
            + " mark(int,int,int,int) forget(int) is(int) look(int) kinds(int) ask(int)"
            + " game(int,int,int,int) slips(int,int) reigns(int,int) part(int) image(int) from(int)"
            + " status(int) count(int) digest()";
    private static final int[] EXTREMES = {Integer.MIN_VALUE, Integer.MIN_VALUE + 1, -1000000, -22, -2, -1, 0,
        1, 2, 7, 99, 100, 150, 151, 1000000, Integer.MAX_VALUE - 1, Integer.MAX_VALUE};

    public static void main(String[] args) throws Exception {
        constants();
        methods();
        noOtherMember();
        language();
        extremes();
        Check.end();
    }

    private static void constants() {
        Check.under("The public face");
        Check.due("NONE", LaneCymbals.NONE, -1);
        Check.due("BAD", LaneCymbals.BAD, -2);
        Check.due("NO", LaneCymbals.NO, -3);
        Check.due("FULL", LaneCymbals.FULL, -4);
    }

    private static void holds(String what, boolean is) {
        Check.due(what, is ? 1 : 0, 1);
    }

    private static String told(Executable e) {
        StringBuilder s = new StringBuilder(e.getName()).append('(');
        for (Class<?> type : e.getParameterTypes()) {
            s.append(s.charAt(s.length() - 1) == '(' ? "" : ",").append(type.getName());
        }
        return s.append(')').toString();
    }

    private static void methods() {
        Check.under("The public face");
        Set<String> due = new TreeSet<>(Set.of(FACE.split(" ")));
        Set<String> got = new TreeSet<>();
        for (Method m : LaneCymbals.class.getDeclaredMethods()) {
            if (Modifier.isPublic(m.getModifiers())) {
                got.add(told(m));
                boolean wide = m.getName().equals("part") || m.getName().equals("digest");
                holds(told(m) + " answers as told", m.getReturnType() == (wide ? long.class : int.class));
            }
        }
        holds("the face is " + due + ", not " + got, due.equals(got));
        holds("the class is public and final", Modifier.isFinal(LaneCymbals.class.getModifiers())
                && Modifier.isPublic(LaneCymbals.class.getModifiers()));
        holds("one public constructor", LaneCymbals.class.getDeclaredConstructors().length == 1
                && LaneCymbals.class.getConstructors().length == 1);
    }

    private static void noOtherMember() {
        Check.under("The public face and LANGUAGE.md, rule 1");
        Set<String> face = new TreeSet<>();
        for (String method : FACE.split(" ")) {
            face.add(method.substring(0, method.indexOf('(')));
        }
        for (Field f : LaneCymbals.class.getDeclaredFields()) {
            boolean constant = Set.of("NONE", "BAD", "NO", "FULL").contains(f.getName());
            holds(f.getName() + " is private", constant || Modifier.isPrivate(f.getModifiers()));
        }
        for (Method m : LaneCymbals.class.getDeclaredMethods()) {
            boolean isPublic = Modifier.isPublic(m.getModifiers());
            holds(m + " is private", isPublic || Modifier.isPrivate(m.getModifiers()));
            holds(m + " has a name of its own", isPublic || !face.contains(m.getName()));
        }
        for (Class<?> inside : LaneCymbals.class.getDeclaredClasses()) {
            holds(inside + " is private and static", Modifier.isPrivate(inside.getModifiers())
                    && Modifier.isStatic(inside.getModifiers()));
            for (Method m : inside.getDeclaredMethods()) {
                holds(m + " has a name of its own", !face.contains(m.getName()));
                holds(m + " has seven parameters at most", m.getParameterCount() <= 7);
            }
        }
        holds("some twelve classes", LaneCymbals.class.getDeclaredClasses().length <= 12);
    }

    private static void language() throws IOException {
        Check.under("LANGUAGE.md");
        String source = Files.readString(Path.of("src/main/java/LaneCymbals.java"));
        String code = source.replaceAll("(?s)/\\*.*?\\*/", " ").replaceAll("//[^\n]*", " ")
                .replaceAll("\"[^\"\n]*\"", "\"\"");
        Matcher banned = Pattern.compile("\\b(throw|throws|try|catch|synchronized|assert|import|package|protected|"
                + "equals|hashCode|toString|MAX_VALUE|MIN_VALUE|var|System|volatile|native)\\b|->|::|Exact\\b")
                .matcher(code);
        holds("none of the words that LANGUAGE.md bans", !banned.find());
        holds("signs 0 to 127 alone", source.chars().allMatch(c -> c < 128));
    }

    private static void extremes() throws Exception {
        Check.under("LANGUAGE.md, rule 7");
        Random random = new Random(9);
        for (int run = 0; run < 40; run++) {
            LaneCymbals x = run % 2 == 0 ? new LaneCymbals()
                    : Check.told("lane 9;one 0 0 9;one 4 1 9;one 5 0 9;aunt 4 0;aunt 3 1;away 1;counts 9;");
            int calls = 0;
            while (calls < 400) {
                for (Method m : LaneCymbals.class.getDeclaredMethods()) {
                    if (Modifier.isPublic(m.getModifiers())) {
                        callWithExtremes(x, m, random);
                        calls++;
                    }
                }
            }
        }
    }

    private static void callWithExtremes(LaneCymbals x, Method m, Random random) throws Exception {
        Object[] numbers = new Object[m.getParameterCount()];
        for (int k = 0; k < numbers.length; k++) {
            numbers[k] = EXTREMES[random.nextInt(EXTREMES.length)];
        }
        try {
            m.invoke(x, numbers);
        } catch (java.lang.reflect.InvocationTargetException e) {
            holds(told(m) + " never throws, but " + e.getCause(), false);
        }
    }
}
