import java.io.IOException;
import java.lang.reflect.Constructor;
import java.lang.reflect.Field;
import java.lang.reflect.Method;
import java.lang.reflect.Modifier;
import java.nio.file.Files;
import java.nio.file.Path;
import java.util.ArrayList;
import java.util.Arrays;
import java.util.List;
import java.util.TreeSet;
import java.util.regex.Matcher;
import java.util.regex.Pattern;

/** The face is the document's, and the source keeps to what of ../shared/LANGUAGE.md a text search can tell. */
public final class FaceTests {
    private static final Path DOCUMENT = Path.of("../shared/DOC.md");
    private static final Path SOURCE = Path.of("src/main/java/GateRow.java");
    private static final int LONGEST_METHOD = 60;

    public static void main(String[] args) throws IOException {
        constants();
        membersAreThoseOfTheDocument();
        noPrivateMethodNamedAsAPublicOne();
        wordsOfTheSource();
        methodsAreShort();
        Due.end("FaceTests");
    }

    private static void constants() {
        Due.equal("SYNTAX_ERROR", GateRow.SYNTAX_ERROR, -2);
        Due.equal("OUT_OF_RANGE", GateRow.OUT_OF_RANGE, -3);
        Due.equal("NAME_ERROR", GateRow.NAME_ERROR, -4);
        Due.equal("TOO_MANY", GateRow.TOO_MANY, -5);
        Due.equal("REFUSED", GateRow.REFUSED, -6);
        Due.equal("NONE", GateRow.NONE, -1);
    }

    private static void membersAreThoseOfTheDocument() throws IOException {
        TreeSet<String> wanted = new TreeSet<>();
        Matcher line = Pattern.compile("^    public (?!static)(.*);$", Pattern.MULTILINE)
                .matcher(Files.readString(DOCUMENT));
        while (line.find()) {
            wanted.add(line.group(1).replaceAll("(int|boolean) \\w+(?=[,)])", "$1"));
        }
        TreeSet<String> found = new TreeSet<>();
        for (Constructor<?> each : GateRow.class.getDeclaredConstructors()) {
            found.add(each.getName() + "()");
        }
        for (Method each : GateRow.class.getDeclaredMethods()) {
            if (!Modifier.isPrivate(each.getModifiers())) {
                found.add(each.getReturnType() + " " + each.getName()
                        + signature(each.getParameterTypes()) + thrown(each.getExceptionTypes()));
            }
        }
        if (!wanted.equals(found)) {
            Due.report("the document's face is " + wanted + ", that of the class " + found);
        }
        for (Field each : GateRow.class.getDeclaredFields()) {
            boolean isConstant = Modifier.isStatic(each.getModifiers()) && Modifier.isFinal(each.getModifiers());
            if (!Modifier.isPrivate(each.getModifiers()) && !(isConstant && each.getType() == int.class)) {
                Due.report("a field that is not private: " + each);
            }
        }
        Due.equal("final", Modifier.isFinal(GateRow.class.getModifiers()) ? 1 : 0, 1);
    }

    private static String signature(Class<?>[] types) {
        List<String> names = new ArrayList<>();
        Arrays.stream(types).forEach(type -> names.add(type.getSimpleName()));
        return "(" + String.join(", ", names) + ")";
    }

    private static String thrown(Class<?>[] types) {
        List<String> names = new ArrayList<>();
        Arrays.stream(types).forEach(type -> names.add(type.getSimpleName()));
        return names.isEmpty() ? "" : " throws " + String.join(", ", names);
    }

    private static void noPrivateMethodNamedAsAPublicOne() {
        TreeSet<String> names = new TreeSet<>();
        for (Method each : GateRow.class.getDeclaredMethods()) {
            if (Modifier.isPublic(each.getModifiers())) {
                names.add(each.getName());
            }
        }
        List<Class<?>> all = new ArrayList<>(List.of(GateRow.class));
        all.addAll(List.of(GateRow.class.getDeclaredClasses()));
        Due.equal("not more than twelve classes", all.size() <= 12 ? 1 : 0, 1);
        for (Class<?> each : all) {
            int fields = 0;
            for (Field field : each.getDeclaredFields()) {
                fields += Modifier.isStatic(field.getModifiers()) ? 0 : 1;
            }
            if (fields > 20) {
                Due.report(each + " has " + fields + " fields");
            }
            for (Method method : each.getDeclaredMethods()) {
                if (!Modifier.isPublic(method.getModifiers()) && names.contains(method.getName())) {
                    Due.report("named as a public one: " + method);
                }
            }
        }
    }

    private static void wordsOfTheSource() throws IOException {
        String code = withoutComments(Files.readString(SOURCE));
        String[] forbidden = {"->", "::", "\\bcatch\\b", "\\btry\\b", "\\bfinally\\b", "\\bsynchronized\\b",
            "\\bassert\\b", "\\bpackage\\b", "\\bprotected\\b", "\\bstatic \\{", "\\bnative\\b", "\\bvolatile\\b",
            "\\binstanceof\\b", "\\bSystem\\b", "\\bObject\\b", "\\bThread\\b", "Exact\\(", "\\bequals\\b",
            "\\bhashCode\\b", "\\btoString\\b", "\\bvar\\b", "[^-+*/ =!<>&|^]+\" \\+", "[%]"};
        for (String each : forbidden) {
            Matcher found = Pattern.compile(each).matcher(code);
            if (found.find()) {
                Due.report("the source holds '" + found.group() + "', which " + each + " forbids");
            }
        }
        Matcher imports = Pattern.compile("import (.*);").matcher(code);
        while (imports.find()) {
            if (!imports.group(1).equals("java.util.NoSuchElementException")) {
                Due.report("imported: " + imports.group(1));
            }
        }
        for (int i = 0; i < code.length(); i++) {
            if (code.charAt(i) > 127) {
                Due.report("a sign above 127 at " + i);
            }
        }
    }

    private static void methodsAreShort() throws IOException {
        String[] lines = withoutComments(Files.readString(SOURCE)).split("\n", -1);
        for (String indent : new String[] {"    ", "        "}) {
            int start = -1;
            for (int n = 0; n < lines.length; n++) {
                boolean isHead = lines[n].startsWith(indent) && lines[n].length() > indent.length()
                        && Character.isLetter(lines[n].charAt(indent.length()))
                        && lines[n].contains("(") && !lines[n].contains(" = ") && !lines[n].endsWith(";");
                if (isHead && !lines[n].contains("class ")) {
                    start = n;
                }
                if (start >= 0 && lines[n].equals(indent + "}")) {
                    if (n - start + 1 > LONGEST_METHOD) {
                        Due.report("a method of " + (n - start + 1) + " lines: " + lines[start].trim());
                    }
                    start = -1;
                }
            }
        }
    }

    private static String withoutComments(String text) {
        return text.replaceAll("(?s)/\\*.*?\\*/", "").replaceAll("//[^\n]*", "");
    }
}
