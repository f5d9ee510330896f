import java.lang.reflect.InvocationTargetException;
import java.lang.reflect.Method;
import java.util.Arrays;
import java.util.Comparator;

/** Runs the tests of a class that stand beside a sentence, each by itself. */
final class SentenceRunner {
    static void run(Class<?> tests) {
        Check check = new Check();
        for (Method test : testsOf(tests)) {
            runOne(test, check);
        }
        check.end();
    }

    /** Every method that takes a Check alone, by name, so that none is forgotten. */
    static Method[] testsOf(Class<?> tests) {
        return Arrays.stream(tests.getDeclaredMethods())
            .filter(m -> Arrays.equals(m.getParameterTypes(), new Class<?>[] {Check.class}))
            .sorted(Comparator.comparing(Method::getName))
            .toArray(Method[]::new);
    }

    private static void runOne(Method test, Check check) {
        Sentence sentence = test.getAnnotation(Sentence.class);
        check.beside(test.getName() + ": ");
        check.due("stands beside a sentence", sentence != null);
        if (sentence != null) {
            check.beside(test.getName() + " (promise " + sentence.promise() + ", '" + sentence.says() + "'): ");
        }
        int before = check.checkedSoFar();
        try {
            test.setAccessible(true);
            test.invoke(null, check);
        } catch (InvocationTargetException | IllegalAccessException e) {
            // What a call throws is a wrong answer of that test; the others still run.
            Throwable cause = e.getCause() == null ? e : e.getCause();
            check.due("ended with " + cause + " at " + Arrays.toString(cause.getStackTrace()), false);
        }
        check.due("checks something", check.checkedSoFar() > before);
        check.beside("");
    }
}
