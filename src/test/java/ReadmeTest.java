import java.lang.reflect.Method;
import java.nio.file.Files;
import java.nio.file.Path;
import java.util.Set;
import java.util.TreeSet;
import java.util.regex.Matcher;
import java.util.regex.Pattern;

/** What README.md shows of the class is so: each call of its example answers what stands behind it. */
public final class ReadmeTest {
    private static final Pattern EXAMPLE = Pattern.compile("(?s)```java\n(.*?)```");
    private static final Pattern CALL = Pattern.compile("x\\.(\\w+)\\((.*?)\\); +// (-?\\d+|[A-Z]+)\\b.*");

    private static final Check check = new Check();

    public static void main(String[] args) throws ReflectiveOperationException, java.io.IOException {
        String readme = Files.readString(Path.of("README.md"));
        Matcher example = EXAMPLE.matcher(readme);
        check.due("there is an example", example.find());
        check.due("every call is shown", shown(example.group(1)).equals(calls()));
        for (String word : new String[] {"`NONE`", "`BAD`", "`FULL`", "`TURN`", "512 calls", ".ci/run"}) {
            check.due("it tells of " + word, readme.contains(word));
        }
        check.end();
    }

    /** Makes the calls of the example on one object; answers their names. */
    private static Set<String> shown(String example) throws ReflectiveOperationException {
        StateTables x = new StateTables();
        Set<String> names = new TreeSet<>();
        for (String line : example.split("\n")) {
            Matcher call = CALL.matcher(line);
            if (call.matches()) {
                check.due(line, answer(x, call.group(1), call.group(2)), due(call.group(3)));
                names.add(call.group(1));
            } else {
                check.due(line + " is a call with its answer", !line.startsWith("x."));
            }
        }
        return names;
    }

    private static Set<String> calls() {
        Set<String> names = new TreeSet<>();
        for (Method m : StateTables.class.getMethods()) {
            if (m.getDeclaringClass() == StateTables.class) {
                names.add(m.getName());
            }
        }
        return names;
    }

    private static long due(String answer) {
        switch (answer) {
            case "NONE": return Check.NONE;
            case "BAD": return Check.BAD;
            case "FULL": return Check.FULL;
            case "TURN": return Check.TURN;
            default: return Long.parseLong(answer);
        }
    }

    private static long answer(StateTables x, String name, String arguments) throws ReflectiveOperationException {
        String[] texts = arguments.isEmpty() ? new String[0] : arguments.split(", ");
        Object[] values = new Object[texts.length];
        Class<?>[] types = new Class<?>[texts.length];
        for (int i = 0; i < texts.length; i++) {
            boolean truth = texts[i].equals("true") || texts[i].equals("false");
            types[i] = truth ? boolean.class : int.class;
            values[i] = truth ? (Object) Boolean.valueOf(texts[i]) : (Object) Integer.valueOf(texts[i]);
        }
        Object answer = StateTables.class.getMethod(name, types).invoke(x, values);
        return ((Number) answer).longValue();
    }
}
