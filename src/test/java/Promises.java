import java.io.IOException;
import java.lang.reflect.InvocationTargetException;
import java.lang.reflect.Method;
import java.lang.reflect.Modifier;
import java.nio.file.Files;
import java.nio.file.Path;
import java.util.ArrayList;
import java.util.Comparator;
import java.util.List;
import java.util.regex.Matcher;
import java.util.regex.Pattern;

/** Runs the tests of a class: each static method whose name begins with the number of its promise. */
final class Promises {
    private static final Path DOCUMENT = Path.of("../shared/DOC.md");
    private static final long LONGEST_MILLIS = 120_000;
    private static final Pattern NAME = Pattern.compile("promise([0-9]+)_\\w+");

    private Promises() {
    }

    /** Each promise from the first to the last one must have a test. */
    static void run(Class<?> tests, int first, int last) {
        endIfStillRunning();
        List<Method> found = testsOf(tests);
        for (int promise = first; promise <= last; promise++) {
            boolean isTested = false;
            for (Method each : found) {
                isTested |= promiseOf(each) == promise;
            }
            if (!isTested) {
                Due.report("no test of the promise " + promise);
            }
        }
        for (Method each : found) {
            runOne(each);
        }
    }

    /** The same, and each test must quote what it stands for, as the document has it. */
    static void runQuoting(Class<?> tests, int first, int last) throws IOException {
        String document = Files.readString(DOCUMENT);
        for (Method each : testsOf(tests)) {
            Says says = each.getAnnotation(Says.class);
            if (says == null) {
                Due.report(each.getName() + " quotes nothing");
                continue;
            }
            String sections = general(document) + section(document, promiseOf(each));
            for (String quote : says.value()) {
                if (!sections.contains(quote)) {
                    Due.report(each.getName() + " quotes what is not there: " + quote);
                }
            }
        }
        run(tests, first, last);
    }

    private static List<Method> testsOf(Class<?> tests) {
        List<Method> found = new ArrayList<>();
        for (Method each : tests.getDeclaredMethods()) {
            if (NAME.matcher(each.getName()).matches() && Modifier.isStatic(each.getModifiers())) {
                found.add(each);
            }
        }
        found.sort(Comparator.comparingInt(Promises::promiseOf).thenComparing(Method::getName));
        return found;
    }

    private static int promiseOf(Method test) {
        Matcher name = NAME.matcher(test.getName());
        return name.matches() ? Integer.parseInt(name.group(1)) : 0;
    }

    private static void runOne(Method test) {
        Due.begin(test.getName());
        try {
            test.setAccessible(true);
            test.invoke(null);
        } catch (InvocationTargetException e) {
            Due.report("ended by " + e.getCause());
        } catch (IllegalAccessException e) {
            throw new AssertionError(e);
        }
        Due.endOne();
    }

    /** A call that does not end must not keep the tests from failing. */
    private static void endIfStillRunning() {
        Thread watch = new Thread(() -> {
            try {
                Thread.sleep(LONGEST_MILLIS);
            } catch (InterruptedException e) {
                return;
            }
            Due.report("does not end");
            Runtime.getRuntime().halt(1);
        });
        watch.setDaemon(true);
        watch.start();
    }

    private static String general(String document) {
        return document.substring(0, document.indexOf("## Promise 1:"));
    }

    private static String section(String document, int promise) {
        int from = document.indexOf("## Promise " + promise + ":");
        return document.substring(from, document.indexOf("\n## ", from));
    }
}
