import java.io.File;
import java.io.IOException;
import java.lang.reflect.Method;
import java.lang.reflect.Modifier;
import java.nio.file.Files;
import java.nio.file.Path;
import java.util.List;
import java.util.regex.Matcher;
import java.util.regex.Pattern;

/** README.md: its examples answer as they say, and it tells every call and every test. */
public final class ReadmeTest {
    private static final Pattern CALL = Pattern.compile("x\\.([a-z]+\\([-0-9, ]*\\)); +// (-?[0-9]+): .+");
    private static final Pattern TYPED = Pattern.compile("for \\(char c : \"(.*)\"\\.toCharArray\\(\\)\\) \\{");

    private static Calls x;
    private static String text;
    private static int calls;

    public static void main(String[] args) throws IOException {
        Check.under("README.md");
        List<String> lines = Files.readAllLines(Path.of("README.md"));
        boolean isExample = false;
        for (String line : lines) {
            if (line.startsWith("```")) {
                isExample = line.equals("```java");
            } else if (isExample) {
                example(line.strip());
            }
        }
        Check.due("there are examples", calls > 0 ? 1 : 0, 1);
        tellsEach(String.join("\n", lines));
        Check.end();
    }

    /** A line that is not understood is a failure: no example goes untried. */
    private static void example(String line) {
        Matcher call = CALL.matcher(line);
        Matcher typed = TYPED.matcher(line);
        if (line.equals("LaneCymbals x = new LaneCymbals();")) {
            x = new Calls();
        } else if (call.matches()) {
            x.due(call.group(1).replace(" ", ""), Long.parseLong(call.group(2)));
            calls++;
        } else if (typed.matches()) {
            text = typed.group(1);
        } else if (line.equals("x.type(c);")) {
            x.type(text);
        } else {
            Check.same("a line", line, "}");
        }
    }

    private static void tellsEach(String readme) {
        for (Method m : LaneCymbals.class.getDeclaredMethods()) {
            if (Modifier.isPublic(m.getModifiers())) {
                told(readme, "`" + m.getName() + "(");
            }
        }
        for (File file : new File("tests").listFiles()) {
            String name = file.getName().replace(".java", "");
            told(readme, name.endsWith("Test") ? "| `" + name + "` |" : "`" + name + "`");
        }
        told(readme, "at most 512 calls");
        told(readme, ".ci/run");
    }

    private static void told(String readme, String words) {
        Check.due("README.md tells " + words, readme.contains(words) ? 1 : 0, 1);
    }
}
