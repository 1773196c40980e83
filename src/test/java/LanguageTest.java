import java.nio.file.Files;
import java.nio.file.Path;
import java.util.List;
import java.util.regex.Matcher;
import java.util.regex.Pattern;

/** What of LANGUAGE.md can be seen in the text of the program. */
public final class LanguageTest {
    private static int wrong = 0;

    private static void never(List<String> lines, String pattern, String what) {
        Pattern p = Pattern.compile(pattern);
        for (int i = 0; i < lines.size(); i++) {
            if (p.matcher(lines.get(i)).find()) {
                wrong++;
                System.out.println("LanguageTest: line " + (i + 1) + ": " + what + ": " + lines.get(i).trim());
            }
        }
    }

    public static void main(String[] args) throws Exception {
        List<String> lines = Files.readAllLines(Path.of("src/main/java/AbsenceTree.java"));
        never(lines, "[^\\x20-\\x7e]", "a sign that is not plain");
        never(lines, "^package|^import (?!java\\.util\\.(Arrays|NoSuchElementException);)", "an import or package");
        never(lines, "->|::", "a lambda or a method reference");
        never(lines, "\\b(try|catch|finally|synchronized|assert|volatile|transient|native|instanceof|enum|record|interface|var)\\b", "a word that is not needed here");
        never(lines, "\\b(double|float|Object|Thread|System\\.(?!arraycopy))\\b", "a type that is not needed here");
        never(lines, "Exact\\(|Math\\.(?!max|min|floorMod)|Integer\\.|Long\\.", "a function that is not needed here");
        never(lines, "\\bthrow\\b(?! new NoSuchElementException\\(\\);)", "another exception");
        never(lines, "^\\s*(private|public)?\\s*static (?!final)[^(]*;", "a static field that is not final");
        never(lines, "while \\(|\\bdo \\{", "a loop of which the end can't be seen");
        never(lines, "\"", "a text");
        methodsAreShort(lines);
        System.out.println(wrong == 0 ? "LanguageTest: the rules are kept" : "LanguageTest: " + wrong + " wrong");
        if (wrong != 0) {
            System.exit(1);
        }
    }

    private static void methodsAreShort(List<String> lines) {
        Pattern head = Pattern.compile("^( +)(?:public|private)[^=;]*\\([^;]*\\{$");
        int methods = 0;
        for (int i = 0; i < lines.size(); i++) {
            Matcher m = head.matcher(lines.get(i));
            if (m.find()) {
                methods++;
                int end = i;
                while (end < lines.size() && !lines.get(end).equals(m.group(1) + "}")) {
                    end++;
                }
                if (end - i > 60) {
                    wrong++;
                    System.out.println("LanguageTest: line " + (i + 1) + ": a long method: " + lines.get(i).trim());
                }
            }
        }
        if (methods < 53) {
            wrong++;
            System.out.println("LanguageTest: only " + methods + " methods were found");
        }
    }
}
