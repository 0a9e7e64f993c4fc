import java.io.IOException;
import java.lang.reflect.InvocationTargetException;
import java.lang.reflect.Method;
import java.lang.reflect.Modifier;
import java.nio.file.Files;
import java.nio.file.Path;
import java.util.ArrayList;
import java.util.List;
import java.util.TreeMap;
import java.util.regex.Matcher;
import java.util.regex.Pattern;

/** README.md must not tell what the class does not do: its example is called, its table compared. */
public final class ReadmeTests {
    private static final Path README = Path.of("README.md");
    private static final String START = "GateRow row = new GateRow();\n";
    private static final int CALLS_OF_THE_EXAMPLE = 21;

    private static final Pattern EXAMPLE = Pattern.compile("(\\w+)\\((.*)\\); +// (-?[0-9.]*[0-9]|throws \\w+)\\b.*");
    private static final Pattern TABLE_ROW = Pattern.compile("^\\| `(\\w+)\\((.*)\\)` \\| .+ \\| (.*) \\|$", Pattern.MULTILINE);
    private static final Pattern EXCEPTION = Pattern.compile("`(\\w+Exception)`: ");

    private final GateRow row = new GateRow();

    public static void main(String[] args) throws IOException {
        String readme = Files.readString(README);
        new ReadmeTests().theExampleAnswersWhatItTells(readme);
        theTableHoldsEachCallWithItsExceptions(readme);
        Due.end("ReadmeTests");
    }

    private void theExampleAnswersWhatItTells(String readme) {
        int from = readme.indexOf(START) + START.length();
        String[] lines = readme.substring(from, readme.indexOf("```", from)).split("\n");
        Due.equal("calls of the example", lines.length, CALLS_OF_THE_EXAMPLE);
        for (String line : lines) {
            Matcher call = EXAMPLE.matcher(line.replaceFirst("^row\\.", ""));
            if (!call.matches()) {
                Due.report("no call with its answer: " + line);
                continue;
            }
            String got = answer(call.group(1), call.group(2));
            Due.equal(line + " answers " + got, got.equals(call.group(3)) ? 1 : 0, 1);
        }
    }

    private String answer(String name, String arguments) {
        if (arguments.startsWith("row, \"")) {
            return Integer.toString(Due.load(row, arguments.replaceAll(".*, \"|\"$", "")));
        }
        String[] texts = arguments.isEmpty() ? new String[0] : arguments.split(", ");
        Object[] values = new Object[texts.length];
        for (int i = 0; i < texts.length; i++) {
            values[i] = texts[i].equals("GateRow.NONE") ? GateRow.NONE : Integer.parseInt(texts[i]);
        }
        try {
            return String.valueOf(faceOf(name).invoke(row, values));
        } catch (InvocationTargetException e) {
            return "throws " + e.getCause().getClass().getSimpleName();
        } catch (IllegalAccessException e) {
            throw new AssertionError(e);
        }
    }

    private static Method faceOf(String name) {
        for (Method each : GateRow.class.getDeclaredMethods()) {
            if (Modifier.isPublic(each.getModifiers()) && each.getName().equals(name)) {
                return each;
            }
        }
        throw new AssertionError("README.md calls " + name);
    }

    private static void theTableHoldsEachCallWithItsExceptions(String readme) {
        TreeMap<String, String> told = new TreeMap<>();
        Matcher row = TABLE_ROW.matcher(readme);
        while (row.find()) {
            int parameters = row.group(2).isEmpty() ? 0 : row.group(2).split(", ").length;
            List<String> exceptions = new ArrayList<>();
            Matcher exception = EXCEPTION.matcher(row.group(3));
            while (exception.find()) {
                exceptions.add(exception.group(1));
            }
            Due.equal(row.group(1) + " throws never", row.group(3).equals("never") ? 1 : 0, exceptions.isEmpty() ? 1 : 0);
            told.put(row.group(1), parameters + " " + exceptions);
        }
        TreeMap<String, String> wanted = new TreeMap<>();
        for (Method each : GateRow.class.getDeclaredMethods()) {
            if (Modifier.isPublic(each.getModifiers())) {
                List<String> exceptions = new ArrayList<>();
                for (Class<?> type : each.getExceptionTypes()) {
                    exceptions.add(type.getSimpleName());
                }
                wanted.put(each.getName(), each.getParameterCount() + " " + exceptions);
            }
        }
        if (!told.equals(wanted)) {
            Due.report("README.md tells " + told + ", the class has " + wanted);
        }
    }
}
