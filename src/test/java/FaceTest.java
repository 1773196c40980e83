import java.lang.reflect.Constructor;
import java.lang.reflect.Executable;
import java.lang.reflect.Field;
import java.lang.reflect.Member;
import java.lang.reflect.Method;
import java.lang.reflect.Modifier;
import java.util.Arrays;
import java.util.NoSuchElementException;
import java.util.Set;
import java.util.TreeSet;

/** The public face: each member that the document has, with its types, and no other that can be seen. */
public final class FaceTest {
    private static final String[] FACE = {
        "int sign(int)", "boolean end(int)", "int map()", "int batch()", "int sheet(int, int, int, int, int)",
        "int level(int, int)", "int holes(int)", "int middle(int)", "int get(int, int) throws", "int root(int)",
        "int node(int, int, int)", "int nodes(int)", "int key(int, int)", "int near(int, int)", "int sum(int, int, int)",
        "int with(int, int)", "int proof(int, int)", "boolean alters(int, int)", "int told()", "int hand()",
        "int accepts(int)", "int accepted()", "int bare(int, int)", "int together(int)", "int others(int, int)",
        "int path(int, int)", "int stretch(int, int, int)", "int forks(int, int, int)", "int shared(int, int)",
        "int differ(int, int)", "int looks(int, int)", "int all()", "int history(int)", "int hot()",
        "int would(int, int, int)", "int against(int, int, int)", "int versions()", "int since(int)", "int puts(int, int)",
        "int moves(int, int)", "int flips(int)", "int swaps(int, int)", "int back(int)", "int joins(int, int, int)",
        "int clears(int, int)", "int day()", "int undo()", "int years(int, int)", "boolean keep(int)", "boolean again(int)",
        "int count(int)", "long row(int) throws",
    };

    private static int wrong = 0;

    private static void check(String what, boolean holds) {
        if (!holds) {
            wrong++;
            System.out.println("FaceTest: " + what);
        }
    }

    private static boolean isHidden(Member member) {
        return Modifier.isPrivate(member.getModifiers());
    }

    private static String parameters(Executable e) {
        StringBuilder s = new StringBuilder();
        for (Class<?> type : e.getParameterTypes()) {
            s.append(s.length() > 0 ? ", " : "").append(type.getSimpleName());
        }
        return s.toString();
    }

    public static void main(String[] args) throws Exception {
        Class<AbsenceTree> type = AbsenceTree.class;
        check("public final class", Modifier.isPublic(type.getModifiers()) && Modifier.isFinal(type.getModifiers()));
        check("no package", type.getPackageName().isEmpty());
        Set<String> found = new TreeSet<>();
        Set<String> names = new TreeSet<>();
        for (Method m : type.getDeclaredMethods()) {
            if (!isHidden(m)) {
                boolean tells = Arrays.equals(m.getExceptionTypes(), new Class<?>[] {NoSuchElementException.class});
                found.add(m.getReturnType().getSimpleName() + " " + m.getName() + "(" + parameters(m) + ")" + (tells ? " throws" : ""));
                names.add(m.getName());
                check("public, of the object: " + m, m.getModifiers() == Modifier.PUBLIC);
                check("throws no more: " + m, tells || m.getExceptionTypes().length == 0);
            }
        }
        Set<String> due = new TreeSet<>(Arrays.asList(FACE));
        check("methods are " + found, found.equals(due));
        check("52 methods", due.size() == 52);
        Constructor<?>[] constructors = type.getDeclaredConstructors();
        check("one constructor", constructors.length == 1 && constructors[0].getModifiers() == Modifier.PUBLIC
            && constructors[0].getParameterCount() == 0);
        for (Field f : type.getDeclaredFields()) {
            boolean isNone = f.getName().equals("NONE");
            check("hidden: " + f, isNone || isHidden(f));
            check("static is final: " + f, !Modifier.isStatic(f.getModifiers()) || Modifier.isFinal(f.getModifiers()));
        }
        check("NONE", type.getField("NONE").getInt(null) == -1 && type.getField("NONE").getType() == int.class);
        checkInside(type, names);
        System.out.println(wrong == 0 ? "FaceTest: the face is as due" : "FaceTest: " + wrong + " wrong");
        if (wrong != 0) {
            System.exit(1);
        }
    }

    private static void checkInside(Class<?> type, Set<String> names) {
        check("few classes", type.getDeclaredClasses().length < 12);
        for (Method m : type.getDeclaredMethods()) {
            check("a name of the face: " + m, !isHidden(m) || !names.contains(m.getName()));
        }
        for (Class<?> inside : type.getDeclaredClasses()) {
            check("private and static: " + inside, Modifier.isPrivate(inside.getModifiers()) && Modifier.isStatic(inside.getModifiers()));
            for (Method m : inside.getDeclaredMethods()) {
                check("a name of the face: " + m, !names.contains(m.getName()));
                check("at most seven parameters: " + m, m.getParameterCount() <= 7);
            }
        }
    }
}
