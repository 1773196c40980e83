import java.lang.annotation.ElementType;
import java.lang.annotation.Retention;
import java.lang.annotation.RetentionPolicy;
import java.lang.annotation.Target;
import java.lang.reflect.InvocationTargetException;
import java.lang.reflect.Method;
import java.math.BigInteger;
import java.util.ArrayList;
import java.util.Arrays;
import java.util.Comparator;
import java.util.List;
import java.util.NoSuchElementException;

/** What the tests of the edges share: each of their methods holds the program to one sentence of the document. */
final class Edges {
    static final int NONE = AbsenceTree.NONE;
    static final long THREW = Long.MIN_VALUE;
    static final int LEAST = Integer.MIN_VALUE;
    static final int GREATEST = Integer.MAX_VALUE;

    /** Keys 1, 2, 6 of 0 .. 7 have 5, 7, 5. */
    static final String SMALL = "3,1=5,2=7,6=5";

    private static int wrong = 0;
    private static String sentence = "";

    private Edges() {
    }

    /** The sentence that a test is for: the promise's number (or T1, T2), and its words. */
    @Retention(RetentionPolicy.RUNTIME)
    @Target(ElementType.METHOD)
    @interface Says {
        String value();
    }

    interface Maker {
        AbsenceTree make();
    }

    interface Call {
        long on(AbsenceTree x);
    }

    // ---- running

    static void runAll(Class<?> tests) throws IllegalAccessException {
        Method[] methods = tests.getDeclaredMethods();
        Arrays.sort(methods, Comparator.comparing(Method::getName));
        int run = 0;
        for (Method m : methods) {
            Says says = m.getAnnotation(Says.class);
            if (says != null) {
                sentence = says.value() + " [" + m.getName() + "]";
                run++;
                try {
                    m.setAccessible(true);
                    m.invoke(null);
                } catch (InvocationTargetException e) {
                    wrong++;
                    System.out.println(sentence + ": " + e.getCause());
                }
            }
        }
        String name = tests.getSimpleName();
        System.out.println(wrong == 0 ? name + ": " + run + " sentences hold" : name + ": " + wrong + " wrong");
        if (wrong != 0 || run == 0) {
            System.exit(1);
        }
    }

    // ---- checks

    static void is(String call, long got, long want) {
        if (got != want) {
            wrong++;
            System.out.println(sentence + ": " + call + " answered " + told(got) + ", due is " + told(want));
        }
    }

    private static String told(long answer) {
        return answer == THREW ? "NoSuchElementException" : Long.toString(answer);
    }

    static void yes(String call, boolean got) {
        is(call, bit(got), 1);
    }

    static void no(String call, boolean got) {
        is(call, bit(got), 0);
    }

    static long bit(boolean b) {
        return b ? 1 : 0;
    }

    /** The answer of a call; THREW if it throws NoSuchElementException. */
    static long answer(AbsenceTree x, Call call) {
        try {
            return call.on(x);
        } catch (NoSuchElementException e) {
            return THREW;
        }
    }

    static void row(AbsenceTree x, long... want) {
        is("count(7)", x.count(7), want.length);
        for (int i = 0; i < want.length && i < x.count(7); i++) {
            is("row(" + i + ")", x.row(i), want[i]);
        }
    }

    /** A call that is refused: its answer, and that an object that had it is as one that had it not. */
    static void refused(String call, long due, Maker maker, Call made) {
        AbsenceTree x = maker.make();
        is(call, answer(x, made), due);
        alike(call, x, maker.make(), true, true);
    }

    static void refused(String call, long due, Call made) {
        refused(call, due, Edges::worn, made);
    }

    /** The same of a call that reads THE TEXT, which it empties. */
    static void refusedText(String call, String text, long due, Maker maker, Call made) {
        AbsenceTree x = write(maker.make(), text);
        is(call + " of " + text, answer(x, made), due);
        is("count(8) behind " + call + " of " + text, x.count(8), 0);
        alike(call + " of " + text, x, maker.make(), true, false);
    }

    static void refusedText(String call, String text, long due, Call made) {
        refusedText(call, text, due, Edges::worn, made);
    }

    /** Compares all that two objects tell of themselves, which changes both. */
    static void alike(String call, AbsenceTree x, AbsenceTree y, boolean ofRow, boolean ofText) {
        List<Long> mine = state(x, ofRow, ofText);
        List<Long> due = state(y, ofRow, ofText);
        if (!mine.equals(due)) {
            wrong++;
            System.out.println(sentence + ": behind " + call + " all is " + mine + ", due is " + due);
        }
    }

    private static List<Long> state(AbsenceTree x, boolean ofRow, boolean ofText) {
        List<Long> all = new ArrayList<>();
        if (ofRow) {
            tellRow(x, all);
        }
        for (int what = 0; what < 7; what++) {
            all.add((long) x.count(what));
        }
        int marks = x.hand();
        all.add((long) marks);
        if (marks >= 0) {
            tellRow(x, all);
        }
        tellVersions(x, all);
        if (ofText) {
            all.add((long) x.count(8));
            all.add((long) x.map());
            tellVersions(x, all);
        }
        for (int i = 0; i < 2; i++) {
            all.add(bit(x.again(i)));
            tellVersions(x, all);
        }
        return all;
    }

    private static void tellRow(AbsenceTree x, List<Long> all) {
        all.add((long) x.count(7));
        for (int i = 0; i < x.count(7); i++) {
            all.add(x.row(i));
        }
    }

    private static void tellVersions(AbsenceTree x, List<Long> all) {
        all.add((long) x.count(0));
        all.add((long) x.versions());
        long first = x.row(0);
        long latest = x.row(1);
        all.add(first);
        all.add(latest);
        for (int version = (int) first; version <= latest; version++) {
            all.add((long) x.root(version));
            all.add(x.row(0));
            all.add((long) x.sum(version, 0, x.count(1) - 1));
        }
    }

    // ---- objects

    static AbsenceTree write(AbsenceTree x, String text) {
        x.end(0);
        for (int i = 0; i < text.length(); i += 4) {
            int v = 0;
            for (int j = i; j < i + 4; j++) {
                v = v << 8 | (j < text.length() ? text.charAt(j) & 255 : 0);
            }
            x.sign(v);
        }
        x.end(text.length());
        return x;
    }

    static AbsenceTree mapped(String text) {
        AbsenceTree x = new AbsenceTree();
        if (write(x, text).map() < 0) {
            is("map() of " + text, -1, 0);
        }
        return x;
    }

    /** Two kept under 0, VERSIONS 3 .. 14 of 8 KEYS, an altered PROOF IN HAND, a ROW of three, and a TEXT. */
    static AbsenceTree worn() {
        AbsenceTree x = mapped(SMALL);
        x.puts(7, 9);
        x.keep(0);
        for (int i = 2; i <= 14; i++) {
            x.puts(0, i);
        }
        x.proof(14, 2);
        x.alters(1, 8);
        x.holes(14);
        return write(x, "4,9=3");
    }

    /** 40 of 256 KEYS with a VALUE: in VERSION 1 KEYS 0 .. 39 have 1 .. 40; in VERSION 0 none has. */
    static AbsenceTree full() {
        AbsenceTree x = mapped("8");
        is("sheet of 40", x.sheet(0, 2, 40, 1, 1), 1);
        return x;
    }

    // ---- marks, once more from the document

    static int h(long a, long b) {
        BigInteger round = BigInteger.ONE.shiftLeft(32);
        BigInteger x = BigInteger.valueOf(31).multiply(BigInteger.valueOf(a)).add(BigInteger.valueOf(b + 17));
        x = x.multiply(BigInteger.valueOf(-1640531535)).mod(round);
        return x.xor(x.shiftRight(15)).intValue();
    }

    static int leaf(int key, int value) {
        return value == 0 ? 0 : h(key + 1, value);
    }

    static int bareMark(int level) {
        int mark = 0;
        for (int l = 0; l < level; l++) {
            mark = h(mark, mark);
        }
        return mark;
    }

    /** MARK of a NODE over KEYS with these VALUES, the first of which is a KEY. */
    static int markOf(int first, int... values) {
        if (values.length == 1) {
            return leaf(first, values[0]);
        }
        int half = values.length / 2;
        int[] left = Arrays.copyOfRange(values, 0, half);
        int[] right = Arrays.copyOfRange(values, half, values.length);
        return h(markOf(first, left), markOf(first + half, right));
    }
}
