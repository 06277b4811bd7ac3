import java.io.IOException;
import java.lang.reflect.InvocationTargetException;
import java.lang.reflect.Method;
import java.nio.file.Path;
import java.util.ArrayList;
import java.util.Arrays;
import java.util.Comparator;
import java.util.List;

/**
 * Runs the tests that hold the document's sentences, and sees to it that each sentence has one;
 * .ci/run starts it in the project's folder. With an argument it tells each test by its sentence.
 */
public final class SentencesTest {
    private static final Class<?>[] SUITES = {
        StarsSentences.class, NightsSentences.class, WorldsSentences.class, ThrowsSentences.class,
    };
    private static final Check check = new Check();

    public static void main(String[] args) throws IOException {
        Document document = new Document(Path.of("../shared/DOC.md"));
        int tests = 0;
        for (Class<?> suite : SUITES) {
            for (Method test : testsOf(suite)) {
                if (args.length > 0) {
                    System.out.println(nameOf(test));
                }
                run(document, test);
                tests++;
            }
        }
        for (String left : document.unheld()) {
            check.dueText("words that no test holds", left, "");
        }
        check.due("promises of the document", document.places(), 20);
        System.out.println(tests + " tests of sentences");
        check.end();
    }

    private static List<Method> testsOf(Class<?> suite) {
        List<Method> tests = new ArrayList<>();
        for (Method method : suite.getDeclaredMethods()) {
            if (method.isSynthetic()) {
                continue;
            }
            boolean takesCheck = Arrays.equals(method.getParameterTypes(), new Class<?>[] {Check.class});
            boolean isTest = method.isAnnotationPresent(Holds.class);
            check.due(method.getName() + " takes a Check and bears Holds, or none of both", takesCheck, isTest);
            if (isTest) {
                tests.add(method);
            }
        }
        tests.sort(Comparator.comparing(Method::getName));
        return tests;
    }

    private static String nameOf(Method test) {
        Holds holds = test.getAnnotation(Holds.class);
        return holds.in() + ", \"" + holds.says() + "\", " + test.getName();
    }

    private static void run(Document document, Method test) {
        Holds holds = test.getAnnotation(Holds.class);
        String name = nameOf(test);
        check.due("stands in the document: " + name, document.hold(holds.in(), holds.says()), true);
        Check own = new Check(name + ": ");
        try {
            test.invoke(null, own);
        } catch (InvocationTargetException e) {
            check.dueText(name + " threw", e.getCause().toString(), "");
        } catch (IllegalAccessException e) {
            throw new IllegalStateException(e);
        }
        check.due("answers not as due: " + name, own.wrong(), 0);
        check.due("asks something: " + name, own.asked() > 0, true);
    }
}
