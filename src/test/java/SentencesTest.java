import java.io.File;
import java.lang.reflect.Method;
import java.nio.file.Files;
import java.nio.file.Path;
import java.util.ArrayList;
import java.util.List;
import java.util.Map;
import java.util.TreeMap;
import java.util.regex.Matcher;
import java.util.regex.Pattern;

/**
 * Every sentence of the document has a test beside it, and every test stands beside
 * a sentence that is there. Run from the project's folder.
 */
public final class SentencesTest {
    private static final int LAST_PROMISE = 19;

    private static final List<String> FOR_ALL_CALLS = List.of(
        "Answers: TURN, then BAD, then FULL, NONE.", "What is not done changes nothing.");

    /** How sentences begin that tell what words mean or what chapters are about, and name no case. */
    private static final List<String> WITHOUT_A_CASE = List.of(
        "Rows of choices, step by step,", "3 NARROW LAYERS of w.", "A WIDE NODE has",
        "Ahead of the calls `step`", "Ahead of the calls `layer`");

    private static final Check check = new Check();

    public static void main(String[] args) throws Exception {
        Map<Integer, List<String>> sentences = sentences(Files.readString(Path.of("../shared/DOC.md")));
        List<Sentence> told = told();
        for (Sentence test : told) {
            dueIsThere(test, sentences.getOrDefault(test.promise(), List.of()));
        }
        for (int promise = 0; promise <= LAST_PROMISE; promise++) {
            List<String> due = sentences.getOrDefault(promise, List.of());
            check.due("promise " + promise + " is in the document", !due.isEmpty());
            for (String sentence : due) {
                dueHasTest(promise, sentence, told);
            }
        }
        check.end();
    }

    private static List<Class<?>> testClasses() throws Exception {
        List<Class<?>> found = new ArrayList<>();
        for (String name : new File("src/test/java").list()) {
            if (name.endsWith("BoundsTest.java")) {
                found.add(Class.forName(name.replace(".java", "")));
            }
        }
        return found;
    }

    private static List<Sentence> told() throws Exception {
        List<Sentence> told = new ArrayList<>();
        for (Class<?> tests : testClasses()) {
            for (Method test : SentenceRunner.testsOf(tests)) {
                check.due(test + " stands beside a sentence", test.isAnnotationPresent(Sentence.class));
                told.add(test.getAnnotation(Sentence.class));
            }
        }
        return told;
    }

    private static void dueIsThere(Sentence test, List<String> sentences) {
        boolean there = FOR_ALL_CALLS.contains(test.says());
        for (String sentence : sentences) {
            there |= sentence.contains(test.says());
        }
        check.due("promise " + test.promise() + " says '" + test.says() + "'", there);
    }

    private static void dueHasTest(int promise, String sentence, List<Sentence> told) {
        boolean tested = false;
        for (Sentence test : told) {
            boolean of = test.promise() == promise || FOR_ALL_CALLS.contains(sentence);
            tested |= of && sentence.contains(test.says());
        }
        for (String beginning : WITHOUT_A_CASE) {
            tested |= promise == 0 && sentence.startsWith(beginning);
        }
        check.due("promise " + promise + ", '" + sentence + "' has a test", tested);
    }

    /** By promise; 0 for the chapters 'What it is' and 'Terms'. */
    private static Map<Integer, List<String>> sentences(String document) {
        Map<Integer, List<String>> found = new TreeMap<>();
        Matcher chapter = Pattern.compile("(?ms)^## ([^\n]*)\n(.*?)(?=^## |\\z)").matcher(document);
        while (chapter.find()) {
            Matcher promise = Pattern.compile("Promise (\\d+):.*").matcher(chapter.group(1));
            if (promise.matches()) {
                found.put(Integer.valueOf(promise.group(1)), split(chapter.group(2)));
            } else if (chapter.group(1).equals("What it is") || chapter.group(1).equals("Terms")) {
                found.computeIfAbsent(0, k -> new ArrayList<>()).addAll(split(chapter.group(2)));
            }
        }
        return found;
    }

    private static List<String> split(String chapter) {
        List<String> found = new ArrayList<>();
        for (String part : chapter.replaceAll("```\\w*", "").split("\n\\s*\n|========")) {
            String line = part.replaceAll("\\s+", " ").trim().replaceFirst("^`[^`]*`: ", "");
            for (String sentence : line.split("(?<=\\.) (?=[A-Z(])")) {
                if (!sentence.isEmpty()) {
                    found.add(sentence);
                }
            }
        }
        return found;
    }
}
