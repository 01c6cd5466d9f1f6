import java.io.IOException;
import java.lang.reflect.Method;
import java.nio.file.Files;
import java.nio.file.Path;
import java.util.ArrayList;
import java.util.Arrays;
import java.util.List;
import java.util.Set;
import java.util.TreeSet;
import java.util.regex.Matcher;
import java.util.regex.Pattern;

/** The calls that README.md shows with their answers: WrongWay and Model answer so, and no call is left out. */
public final class ReadmeTest {
    private static final int MOST_CALLS = 512;
    private static final String FENCE = "```";
    private static final Pattern NEW = Pattern.compile("WrongWay x = new WrongWay\\(\\);(?: +//.*)?");
    private static final Pattern CALL = Pattern.compile("x\\.(\\w+)\\(([^)]*)\\); +// (-?\\d+)(?:: .*)?");
    private static final Pattern TYPED = Pattern.compile(
            "for \\(char c : \"([^\"\\\\]*)\"\\.toCharArray\\(\\)\\) \\{ x\\.type\\(c\\); \\}");
    private static final Check C = new Check();
    private static final Set<String> SHOWN = new TreeSet<>();

    private WrongWay x;
    private Model y;
    private int calls;

    public static void main(String[] args) throws IOException, ReflectiveOperationException {
        List<List<String>> examples = examplesOf(Files.readAllLines(Path.of("README.md")));
        C.holds("README.md shows examples", !examples.isEmpty());
        for (List<String> example : examples) {
            new ReadmeTest().run(example);
        }
        C.about("README.md");
        for (Method m : WrongWay.class.getDeclaredMethods()) {
            if (java.lang.reflect.Modifier.isPublic(m.getModifiers())) {
                C.holds(m.getName() + " is shown", SHOWN.contains(m.getName()));
            }
        }
        C.end();
    }

    private static List<List<String>> examplesOf(List<String> readme) {
        List<List<String>> examples = new ArrayList<>();
        List<String> open = null;
        for (String line : readme) {
            if (line.equals(FENCE + "java")) {
                open = new ArrayList<>();
                examples.add(open);
            } else if (line.startsWith(FENCE)) {
                open = null;
            } else if (open != null) {
                open.add(line);
            }
        }
        return examples;
    }

    private void run(List<String> example) throws ReflectiveOperationException {
        for (String line : example) {
            C.about("README.md: " + line);
            Matcher call = CALL.matcher(line);
            Matcher typed = TYPED.matcher(line);
            if (NEW.matcher(line).matches()) {
                C.holds("an example has one object", x == null);
                x = new WrongWay();
                y = new Model();
            } else if (call.matches()) {
                ask(call.group(1), numbersOf(call.group(2)), Long.parseLong(call.group(3)));
            } else if (typed.matches()) {
                type(typed.group(1));
            } else {
                C.holds("it can be read", false);
            }
        }
        C.holds("calls were asked for, " + MOST_CALLS + " at most", calls > 0 && calls <= MOST_CALLS);
    }

    private void ask(String name, Object[] numbers, long due) throws ReflectiveOperationException {
        SHOWN.add(name);
        calls++;
        C.due("it", answer(x, name, numbers), due);
        C.due("the model", answer(y, name, numbers), due);
    }

    private void type(String text) {
        SHOWN.add("type");
        for (int i = 0; i < text.length(); i++) {
            calls++;
            C.due("type", x.type(text.charAt(i)), y.type(text.charAt(i)));
        }
    }

    private static Object[] numbersOf(String list) {
        return list.isEmpty()
                ? new Object[0]
                : Arrays.stream(list.split(", ")).map(Integer::valueOf).toArray();
    }

    private static long answer(Object asked, String name, Object[] numbers) throws ReflectiveOperationException {
        Class<?>[] types = new Class<?>[numbers.length];
        Arrays.fill(types, int.class);
        Method method = asked.getClass().getDeclaredMethod(name, types);
        return ((Number) method.invoke(asked, numbers)).longValue();
    }
}
