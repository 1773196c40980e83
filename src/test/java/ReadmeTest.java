import java.lang.reflect.InvocationTargetException;
import java.lang.reflect.Method;
import java.lang.reflect.Modifier;
import java.nio.file.Files;
import java.nio.file.Path;
import java.util.List;
import java.util.Set;
import java.util.TreeSet;
import java.util.regex.Matcher;
import java.util.regex.Pattern;

/** README.md: its example answers as it says, and its table has each call with the numbers that the document has. */
public final class ReadmeTest {
    private static final Pattern TEXT = Pattern.compile("tell\\(x, \"([^\"]*)\"\\);");
    private static final Pattern CALL = Pattern.compile("x\\.(\\w+)\\(([^)]*)\\); +// (-?\\w+)(:.*)?");
    private static final Pattern LINE = Pattern.compile("\\| `(\\w+)\\((.*)\\)` \\|(.*)\\|");
    private static final Pattern BELOW = Pattern.compile("-\\d+( - p)?");

    private static int wrong = 0;

    private static void check(String what, boolean holds) {
        if (!holds) {
            wrong++;
            System.out.println("ReadmeTest: " + what);
        }
    }

    // ---- the example

    private static String answer(AbsenceTree x, String name, String arguments) throws Exception {
        String[] told = arguments.isEmpty() ? new String[0] : arguments.split(", ");
        Class<?>[] types = new Class<?>[told.length];
        Object[] numbers = new Object[told.length];
        for (int i = 0; i < told.length; i++) {
            types[i] = int.class;
            numbers[i] = Integer.parseInt(told[i]);
        }
        try {
            return AbsenceTree.class.getMethod(name, types).invoke(x, numbers).toString();
        } catch (InvocationTargetException e) {
            return e.getCause().getClass().getSimpleName();
        }
    }

    private static void exampleHolds(List<String> lines) throws Exception {
        int at = lines.indexOf("## An example");
        check("an example", at >= 0);
        AbsenceTree x = new AbsenceTree();
        int calls = 0;
        for (int i = at + 3; at >= 0 && i < lines.size() && !lines.get(i).equals("```"); i++) {
            Matcher text = TEXT.matcher(lines.get(i));
            Matcher call = CALL.matcher(lines.get(i));
            if (text.matches()) {
                Edges.write(x, text.group(1));
            } else if (call.matches()) {
                String got = answer(x, call.group(1), call.group(2));
                check("line " + (i + 1) + " answered " + got, got.equals(call.group(3)));
                calls++;
            } else {
                check("line " + (i + 1) + " is no call", lines.get(i).equals("AbsenceTree x = new AbsenceTree();"));
            }
        }
        check("some calls", calls > 20);
    }

    // ---- the table

    /** The answers below 0 that a text tells, once each. */
    private static Set<String> below(String text) {
        Set<String> found = new TreeSet<>();
        Matcher m = BELOW.matcher(text);
        while (m.find()) {
            found.add(m.group());
        }
        return found;
    }

    private static String promiseOf(List<String> document, String name) {
        for (int i = 0; i < document.size(); i++) {
            if (document.get(i).matches("## Promise \\d+: " + name)) {
                return document.get(i + 2);
            }
        }
        return "";
    }

    private static void tableHolds(List<String> lines, List<String> document) {
        Set<String> told = new TreeSet<>();
        for (String line : lines) {
            Matcher m = LINE.matcher(line);
            if (m.matches() && m.group(3).split("\\|", -1).length == 3) {
                String name = m.group(1);
                told.add(name + "/" + (m.group(2).isEmpty() ? 0 : m.group(2).split(",").length));
                String last = m.group(3).substring(m.group(3).lastIndexOf('|'));
                String promise = promiseOf(document, name);
                check(name + ": answers below 0", below(last).equals(below(promise)));
                check(name + ": NONE", last.contains("NONE") == refusesByNone(promise));
                check(name + ": ROW", !m.group(3).split("\\|", -1)[1].isBlank() == promise.contains("the ROW: "));
            }
        }
        Set<String> due = new TreeSet<>();
        for (Method m : AbsenceTree.class.getDeclaredMethods()) {
            if (Modifier.isPublic(m.getModifiers())) {
                due.add(m.getName() + "/" + m.getParameterCount());
            }
        }
        check("the table has " + told, told.equals(due));
    }

    private static boolean refusesByNone(String promise) {
        return promise.startsWith("`int ") && (promise.contains("NONE: ") || promise.contains("NONE for") || promise.contains("Refused: "));
    }

    public static void main(String[] args) throws Exception {
        List<String> lines = Files.readAllLines(Path.of("README.md"));
        exampleHolds(lines);
        tableHolds(lines, Files.readAllLines(Path.of("../shared/DOC.md")));
        System.out.println(wrong == 0 ? "ReadmeTest: the page holds" : "ReadmeTest: " + wrong + " wrong");
        if (wrong != 0) {
            System.exit(1);
        }
    }
}
