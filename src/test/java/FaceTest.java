import java.io.IOException;
import java.lang.reflect.Constructor;
import java.lang.reflect.Executable;
import java.lang.reflect.Field;
import java.lang.reflect.Method;
import java.lang.reflect.Modifier;
import java.nio.file.Files;
import java.nio.file.Path;
import java.util.ArrayList;
import java.util.List;
import java.util.TreeSet;
import java.util.regex.Matcher;
import java.util.regex.Pattern;

/** The public face, and the words that LANGUAGE.md rules out. Run from the project's folder. */
public final class FaceTest {
    private static final Check check = new Check();

    public static void main(String[] args) throws IOException, IllegalAccessException {
        face(Files.readString(Path.of("../shared/DOC.md")));
        nested();
        words();
        check.end();
    }

    /** The lines of the document's chapter 'The public face', without the braces around them. */
    private static List<String> asked(String document) {
        Matcher code = Pattern.compile("(?s)## The public face\\s+```java\n(.*?)```").matcher(document);
        check.due("the document has a face", code.find());
        List<String> lines = new ArrayList<>();
        for (String line : code.group(1).split("\n")) {
            if (!line.equals("}")) {
                lines.add(line.trim());
            }
        }
        return lines;
    }

    private static void face(String document) throws IllegalAccessException {
        List<String> seen = new ArrayList<>();
        seen.add(Modifier.toString(StateTables.class.getModifiers()) + " class StateTables {");
        for (Field f : StateTables.class.getDeclaredFields()) {
            if (!Modifier.isPrivate(f.getModifiers())) {
                seen.add(shown(f));
            }
        }
        for (Constructor<?> c : StateTables.class.getDeclaredConstructors()) {
            seen.add(shown(c));
        }
        for (Method m : StateTables.class.getDeclaredMethods()) {
            if (!Modifier.isPrivate(m.getModifiers())) {
                seen.add(shown(m));
            } else {
                dueNameOfItsOwn(m);
            }
        }
        check.due("the face", inOrder(seen), inOrder(plain(asked(document))));
    }

    private static void dueNameOfItsOwn(Method hidden) {
        boolean own = true;
        for (Method m : StateTables.class.getMethods()) {
            own &= m.getDeclaringClass() != StateTables.class || !m.getName().equals(hidden.getName());
        }
        check.due(hidden + " has a name of its own", own);
    }

    private static String inOrder(List<String> lines) {
        return String.join("\n", new TreeSet<>(lines));
    }

    /** One line for each constant, and no names of arguments, as these are not in the compiled class. */
    private static List<String> plain(List<String> lines) {
        List<String> found = new ArrayList<>();
        for (String line : lines) {
            String type = "public static final int ";
            if (line.startsWith(type)) {
                for (String constant : line.substring(type.length()).replace(";", "").split(", ")) {
                    found.add(type + constant + ";");
                }
            } else {
                found.add(line.replaceAll("\\b(int|boolean) \\w+([,)])", "$1$2"));
            }
        }
        return found;
    }

    private static String shown(Field f) throws IllegalAccessException {
        String value = Modifier.isStatic(f.getModifiers()) ? " = " + f.get(null) : "";
        return Modifier.toString(f.getModifiers()) + " " + f.getType() + " " + f.getName() + value + ";";
    }

    private static String shown(Executable e) {
        List<String> types = new ArrayList<>();
        for (Class<?> type : e.getParameterTypes()) {
            types.add(type.getName());
        }
        String answer = e instanceof Method ? ((Method) e).getReturnType() + " " : "";
        return Modifier.toString(e.getModifiers()) + " " + answer + e.getName() + "(" + String.join(", ", types) + ");";
    }

    private static void nested() {
        Class<?>[] inside = StateTables.class.getDeclaredClasses();
        check.due("at most 11 classes inside", inside.length <= 11);
        for (Class<?> c : inside) {
            check.due(c + " is static", Modifier.isStatic(c.getModifiers()));
            check.due(c + " is private or package-visible",
                !Modifier.isPublic(c.getModifiers()) && !Modifier.isProtected(c.getModifiers()));
            for (Field f : c.getDeclaredFields()) {
                check.due(f + ": static fields are final",
                    !Modifier.isStatic(f.getModifiers()) || Modifier.isFinal(f.getModifiers()));
            }
            for (Method m : c.getDeclaredMethods()) {
                check.due(m + ": at most seven parameters", m.getParameterCount() <= 7);
                dueNameOfItsOwn(m);
            }
        }
    }

    private static void words() throws IOException {
        String source = Files.readString(Path.of("src/main/java/StateTables.java"))
            .replaceAll("(?s)/\\*.*?\\*/", "").replaceAll("//[^\n]*", "");
        String[] ruledOut = {
            "throw", "throws", "try", "catch", "finally", "synchronized", "assert", "package",
            "->", "::", "\\[\\]\\s*\\[\\]", "\\w+Exact", "equals", "hashCode", "toString",
            "System\\.(?!arraycopy)\\w+", "Arrays\\.(?!copyOf\\b|copyOfRange\\b|fill\\b)\\w+",
            "import (?!java\\.util\\.Arrays;)"};
        for (String word : ruledOut) {
            String whole = Character.isLetter(word.charAt(0)) ? "\\b" + word : word;
            String pattern = word.matches("[a-zA-Z]+") ? whole + "\\b" : whole;
            check.due("without " + word, !Pattern.compile(pattern).matcher(source).find());
        }
    }
}
