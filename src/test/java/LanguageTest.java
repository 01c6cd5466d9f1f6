import java.io.IOException;
import java.lang.reflect.Constructor;
import java.lang.reflect.Field;
import java.lang.reflect.Method;
import java.lang.reflect.Modifier;
import java.nio.file.Files;
import java.nio.file.Path;
import java.util.Arrays;
import java.util.Map;
import java.util.Set;
import java.util.TreeMap;
import java.util.TreeSet;
import java.util.regex.Matcher;
import java.util.regex.Pattern;
import java.util.stream.Collectors;

/** The face of the document and no other, and those rules of LANGUAGE.md that can be read off. */
public final class LanguageTest {
    private static final Set<String> FACE = new TreeSet<>(Set.of(
            "int house(int)", "int lift(int,int)", "int line(int,int,int)", "int type(int)", "int clear()",
            "int read()", "int passes(int)", "int undo()", "int of(int,int)", "int where(int,int)",
            "int first(int,int,int)", "int often(int,int)", "int own(int,int)", "int ride(int,int,int,int)",
            "int walk(int,int,int,int)", "int lines()", "int even()", "int note(int,int,int,int)",
            "int forget()", "int is(int,int)", "int look(int,int)", "int porters(int,int,int,int)",
            "int days(int,int,int)", "long part(int)", "int image(int)", "int from(int)", "int status(int)",
            "int count(int)", "long digest()"));
    private static final String[] FORBIDDEN = {
        "throw", "throws", "try", "catch", "finally", "synchronized", "assert", "import", "package", "var",
        "protected", "equals", "hashCode", "Exception", "Random", "Thread"
    };
    private static final Set<String> LIBRARY = Set.of(
            "Math.min", "Math.max", "Math.abs", "Integer.bitCount", "System.arraycopy");
    private static final Set<String> MADE = Set.of(
            "new House", "new Watch", "new Text", "new Fraction", "new int", "new byte", "new boolean");
    private static final Check C = new Check();

    public static void main(String[] args) throws IOException {
        face();
        for (Class<?> inside : WrongWay.class.getDeclaredClasses()) {
            inside(inside);
        }
        String text = Files.readString(Path.of("src/main/java/WrongWay.java"));
        source(text);
        library(codeOf(text));
        methods(codeOf(text));
        C.end();
    }

    private static void face() {
        C.about("the face");
        Set<String> methods = new TreeSet<>();
        Set<String> names = new TreeSet<>();
        for (Method m : WrongWay.class.getDeclaredMethods()) {
            if (Modifier.isPublic(m.getModifiers())) {
                String types = Arrays.stream(m.getParameterTypes()).map(Class::getName)
                        .collect(Collectors.joining(","));
                methods.add(m.getReturnType().getName() + " " + m.getName() + "(" + types + ")");
                names.add(m.getName());
            }
        }
        C.holds("methods are " + FACE + " but were " + methods, methods.equals(FACE));
        for (Method m : WrongWay.class.getDeclaredMethods()) {
            int mod = m.getModifiers();
            C.holds(m + " is public or private", Modifier.isPublic(mod) || Modifier.isPrivate(mod));
            C.holds(m + " has its own name", Modifier.isPublic(mod) || !names.contains(m.getName()));
        }
        Set<String> constants = new TreeSet<>();
        for (Field f : WrongWay.class.getDeclaredFields()) {
            int mod = f.getModifiers();
            C.holds(f + " is final", Modifier.isFinal(mod));
            C.holds(f + " is public or private", Modifier.isPublic(mod) || Modifier.isPrivate(mod));
            if (Modifier.isPublic(mod)) {
                constants.add(f.getName());
            }
        }
        C.holds("constants", constants.equals(Set.of("NONE", "BAD", "NO", "FULL")));
        C.due("NONE", WrongWay.NONE, -1);
        C.due("BAD", WrongWay.BAD, -2);
        C.due("NO", WrongWay.NO, -3);
        C.due("FULL", WrongWay.FULL, -4);
        Constructor<?>[] made = WrongWay.class.getDeclaredConstructors();
        C.due("constructors", made.length, 1);
        C.due("its parameters", made[0].getParameterCount(), 0);
        C.holds("it is public", Modifier.isPublic(made[0].getModifiers()));
        C.holds("the class is final", Modifier.isFinal(WrongWay.class.getModifiers()));
    }

    private static void inside(Class<?> inside) {
        C.about(inside.getSimpleName());
        C.holds("static", Modifier.isStatic(inside.getModifiers()));
        C.holds("not public", !Modifier.isPublic(inside.getModifiers()));
        C.holds("some twenty fields", inside.getDeclaredFields().length <= 25);
        for (Field f : inside.getDeclaredFields()) {
            C.holds(f + " is no state of all", !Modifier.isStatic(f.getModifiers())
                    || Modifier.isFinal(f.getModifiers()));
        }
        for (Method m : inside.getDeclaredMethods()) {
            C.holds(m + " takes at most seven", m.getParameterCount() <= 7);
            C.holds(m + " is no name of the face",
                    FACE.stream().noneMatch(s -> s.contains(" " + m.getName() + "(")));
        }
    }

    private static void source(String text) {
        C.about("the source");
        String code = codeOf(text);
        for (String word : FORBIDDEN) {
            C.holds("no " + word, !Pattern.compile("\\b" + word + "\\b").matcher(code).find());
        }
        C.holds("no lambda", !code.contains("->"));
        C.holds("no method reference", !code.contains("::"));
        C.holds("plain signs", text.chars().allMatch(ch -> ch == '\n' || ch >= 32 && ch < 127));
        C.holds("some twelve classes", code.split("\\bclass\\b").length - 1 <= 12);
    }

    private static String codeOf(String text) {
        return text.replaceAll("(?s)/\\*.*?\\*/", "").replaceAll("//[^\n]*", "");
    }

    private static void library(String code) {
        C.about("the library");
        Matcher m = Pattern.compile("\\b(Math|Integer|Long|System|Arrays|List|String|Character)\\.(\\w+)")
                .matcher(code);
        while (m.find()) {
            C.holds(m.group() + " is one of those told", LIBRARY.contains(m.group()));
        }
        // What is made is made in constructors and fields: no call makes any.
        Matcher made = Pattern.compile("\\bnew \\w+").matcher(code);
        while (made.find()) {
            C.holds(made.group() + " is one of those made once", MADE.contains(made.group()));
        }
    }

    /** Rule 11: methods of some sixty lines; calls at most eight deep, and none that comes back. */
    private static void methods(String code) {
        C.about("the methods");
        Map<String, String> bodies = new TreeMap<>();
        Matcher m = Pattern.compile("(?ms)^( +)(?:(?:public|private|static) )*[\\w\\[\\]]+ (\\w+)\\([^)]*\\) \\{$"
                + "(.*?)^\\1\\}$").matcher(code);
        while (m.find()) {
            C.holds(m.group(2) + " stays short", m.group(3).lines().count() <= 60);
            bodies.merge(m.group(2), m.group(3), String::concat);
        }
        C.holds("all methods were found, " + bodies.size(), bodies.size() > FACE.size());
        for (String name : bodies.keySet()) {
            int depth = depth(name, bodies, 0);
            C.holds(name + " is " + depth + " deep", depth <= 8);
        }
    }

    private static int depth(String name, Map<String, String> bodies, int above) {
        int deepest = 0;
        Matcher call = Pattern.compile("(?<!new )\\b(\\w+)\\(").matcher(bodies.get(name));
        while (call.find() && above <= 20) {
            if (bodies.containsKey(call.group(1))) {
                deepest = Math.max(deepest, depth(call.group(1), bodies, above + 1));
            }
        }
        return 1 + deepest;
    }
}
