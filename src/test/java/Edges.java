import java.io.IOException;
import java.lang.reflect.InvocationTargetException;
import java.lang.reflect.Method;
import java.nio.file.Files;
import java.nio.file.Path;
import java.util.ArrayList;
import java.util.Comparator;
import java.util.List;
import java.util.function.ToIntFunction;

/** Tests of the edges that the document names: one method for each sentence, which bears that sentence. */
abstract class Edges {
    static final int NONE = -1, UNKNOWN = -1001, OUTSIDE = -1002, STATE = -1003, FULL = -1004;
    static final int MIN = Integer.MIN_VALUE, MAX = Integer.MAX_VALUE;

    private static final Path DOCUMENT = Path.of("../shared/DOC.md");

    final Check check = new Check();

    /** Runs all tests of the class, looks whether the document has their sentences, and ends the program. */
    final void runAll() throws IOException, ReflectiveOperationException {
        String document = Files.readString(DOCUMENT).replaceAll("\\s+", " ");
        for (Method test : testsOf(getClass())) {
            String sentence = test.getAnnotation(Sentence.class).value();
            check.due("the document says '" + sentence + "'", document.contains(sentence) ? 1 : 0, 1);
            int before = check.wrong();
            run(test);
            if (check.wrong() > before) System.out.println(test.getName() + " does not hold: " + sentence);
        }
        check.end();
    }

    static List<Method> testsOf(Class<?> edges) {
        List<Method> tests = new ArrayList<>();
        for (Method method : edges.getDeclaredMethods()) {
            if (method.isAnnotationPresent(Sentence.class)) tests.add(method);
        }
        tests.sort(Comparator.comparing(Method::getName));
        return tests;
    }

    /** How many answers of one test are wrong; a test that throws has one. */
    final int wrongIn(String test) throws ReflectiveOperationException {
        try {
            run(getClass().getDeclaredMethod(test));
        } catch (InvocationTargetException thrown) {
            return 1;
        }
        return check.wrong();
    }

    private void run(Method test) throws ReflectiveOperationException {
        test.setAccessible(true);
        test.invoke(this);
    }

    // ---- what the tests share

    static FarReach writing(String text) {
        FarReach x = new FarReach();
        Check.write(x, text);
        return x;
    }

    /** Code that was read with these reaches. */
    static FarReach reading(String text, int shortReach, int longReach, int loads) {
        FarReach x = new FarReach();
        x.reach(0, shortReach);
        x.reach(1, longReach);
        x.reach(2, loads);
        Check.write(x, text);
        x.code();
        return x;
    }

    final void dueCode(String text, int answer) {
        check.due("code() of '" + text + "'", writing(text).code(), answer);
    }

    final void dueFault(String text, int place) {
        check.due("fault() of '" + text + "'", writing(text).fault(), place);
    }

    /** A call that is refused: its answer, and that it changes nothing. */
    final void refused(String call, FarReach x, ToIntFunction<FarReach> made, int answer) {
        long before = x.digest();
        check.due(call, made.applyAsInt(x), answer);
        check.due("digest() behind " + call, x.digest(), before);
    }
}
