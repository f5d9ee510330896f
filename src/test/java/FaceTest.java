import java.io.IOException;
import java.lang.reflect.Constructor;
import java.lang.reflect.Field;
import java.lang.reflect.Method;
import java.lang.reflect.Modifier;
import java.nio.file.Files;
import java.nio.file.Path;
import java.util.ArrayList;
import java.util.List;
import java.util.Set;
import java.util.TreeSet;
import java.util.regex.Pattern;

/** The public face, and the words that LANGUAGE.md rules out. Run from the project's folder. */
public final class FaceTest {
    private static final Check check = new Check();

    private static final Set<String> FACE = Set.of(
        "int step()", "int choice(int, int, int, int)", "int cost(int, int, int)",
        "int resource(int, int, int)", "int bar(int, int, int, boolean)", "int run()",
        "int best()", "long many()", "int plans()", "int plan(int, int)", "int layer(int)",
        "int node(int, int, int)", "long ways(int, int, boolean)", "int dominated(int, int)",
        "int leads(int, int, int)", "int narrow(int, boolean)", "int narrowed(int)", "int count(int)");
    private static final Set<String> CONSTANTS = Set.of("NONE", "BAD", "FULL", "TURN");

    public static void main(String[] args) throws IOException {
        face();
        nested();
        words();
        check.end();
    }

    private static void face() {
        check.due("final class", Modifier.isFinal(StateTables.class.getModifiers()));
        Set<String> seen = new TreeSet<>();
        Set<String> names = new TreeSet<>();
        for (Method m : StateTables.class.getDeclaredMethods()) {
            if (Modifier.isPrivate(m.getModifiers())) {
                continue;
            }
            check.due(m + " is public", Modifier.isPublic(m.getModifiers()));
            seen.add(signature(m));
            names.add(m.getName());
        }
        check.due("the public methods are " + seen, seen.equals(FACE));
        for (Method m : StateTables.class.getDeclaredMethods()) {
            check.due(m + " has a name of its own",
                Modifier.isPublic(m.getModifiers()) || !names.contains(m.getName()));
        }
        for (Field f : StateTables.class.getDeclaredFields()) {
            check.due(f + " is private", CONSTANTS.contains(f.getName()) != Modifier.isPrivate(f.getModifiers()));
        }
        Constructor<?>[] made = StateTables.class.getDeclaredConstructors();
        check.due("one constructor", made.length == 1 && Modifier.isPublic(made[0].getModifiers()));
    }

    private static String signature(Method m) {
        List<String> types = new ArrayList<>();
        for (Class<?> type : m.getParameterTypes()) {
            types.add(type.getName());
        }
        return m.getReturnType() + " " + m.getName() + "(" + String.join(", ", types) + ")";
    }

    private static void nested() {
        Class<?>[] inside = StateTables.class.getDeclaredClasses();
        check.due("at most 11 classes inside", inside.length <= 11);
        for (Class<?> c : inside) {
            check.due(c + " is static", Modifier.isStatic(c.getModifiers()));
            for (Field f : c.getDeclaredFields()) {
                check.due(f + ": static fields are final",
                    !Modifier.isStatic(f.getModifiers()) || Modifier.isFinal(f.getModifiers()));
            }
            for (Method m : c.getDeclaredMethods()) {
                check.due(m + ": at most seven parameters", m.getParameterCount() <= 7);
            }
        }
    }

    private static void words() throws IOException {
        String source = Files.readString(Path.of("src/main/java/StateTables.java"))
            .replaceAll("(?s)/\\*.*?\\*/", "").replaceAll("//[^\n]*", "");
        String[] ruledOut = {
            "throw", "throws", "try", "catch", "finally", "synchronized", "assert", "package",
            "->", "::", "\\[\\]\\s*\\[\\]", "\\w+Exact", "equals", "hashCode", "toString",
            "System\\.(?!arraycopy)\\w+", "Arrays\\.(?!copyOf\\b|copyOfRange\\b|fill\\b)\\w+",
            "import (?!java\\.util\\.Arrays;)"};
        for (String word : ruledOut) {
            String whole = Character.isLetter(word.charAt(0)) ? "\\b" + word : word;
            String pattern = word.matches("[a-zA-Z]+") ? whole + "\\b" : whole;
            check.due("without " + word, !Pattern.compile(pattern).matcher(source).find());
        }
    }
}
