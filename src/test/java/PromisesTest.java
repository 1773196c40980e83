import java.util.NoSuchElementException;

/** Each promise by itself: ordinary inputs, the edges that the document names, and wrong inputs. */
public final class PromisesTest {
    private static final int NONE = AbsenceTree.NONE;
    private static int wrong = 0;
    private static String promise = "";

    private static void is(String call, long got, long want) {
        if (got != want) {
            wrong++;
            System.out.println("promise " + promise + ": " + call + " answered " + got + ", due is " + want);
        }
    }

    private static void yes(String call, boolean got) {
        is(call, got ? 1 : 0, 1);
    }

    private static void no(String call, boolean got) {
        is(call, got ? 1 : 0, 0);
    }

    private static void row(AbsenceTree x, long... want) {
        is("count(7)", x.count(7), want.length);
        for (int i = 0; i < want.length && i < x.count(7); i++) {
            is("row(" + i + ")", x.row(i), want[i]);
        }
    }

    private static AbsenceTree write(AbsenceTree x, String text) {
        x.end(0);
        for (int i = 0; i < text.length(); i += 4) {
            int v = 0;
            for (int j = i; j < i + 4; j++) {
                v = v << 8 | (j < text.length() ? text.charAt(j) & 255 : 0);
            }
            x.sign(v);
        }
        x.end(text.length());
        return x;
    }

    private static AbsenceTree mapped(String text) {
        AbsenceTree x = new AbsenceTree();
        if (write(x, text).map() < 0) {
            is("map() of " + text, -1, 0);
        }
        return x;
    }

    private static int h(int a, int b) {
        int x = (31 * a + b + 17) * -1640531535;
        return x ^ (x >>> 15);
    }

    private static int leaf(int key, int value) {
        return h(key + 1, value);
    }

    private static int bareMark(int level) {
        int mark = 0;
        for (int i = 0; i < level; i++) {
            mark = h(mark, mark);
        }
        return mark;
    }

    // a map of depth 3 that many promises look at: keys 1, 2, 6 with 5, 7, 5
    private static final String SMALL = "3,1=5,2=7,6=5";
    private static final int LEFT1 = h(0, leaf(1, 5));
    private static final int LEFT2 = h(leaf(2, 7), 0);
    private static final int LEFT = h(LEFT1, LEFT2);
    private static final int SIX = h(leaf(6, 5), 0);
    private static final int RIGHT = h(bareMark(1), SIX);
    private static final int SMALL_ROOT = h(LEFT, RIGHT);

    private static void newObject() {
        AbsenceTree x = new AbsenceTree();
        int[] due = {4, 16, 0, 1, 0, 0, 0, 0, 0};
        for (int i = 0; i < due.length; i++) {
            is("count(" + i + ")", x.count(i), due[i]);
        }
        is("get(0, 15)", x.get(0, 15), 0);
        is("root(0)", x.root(0), 0);
        row(x, bareMark(4));
    }

    private static void sign() {
        AbsenceTree x = new AbsenceTree();
        is("sign of ABCD", x.sign(0x41424344), 4);
        is("sign of 255 255 255 255", x.sign(-1), 8);
        for (int n = 12; n <= 80; n += 4) {
            is("sign", x.sign(0), n);
        }
        is("sign behind 80", x.sign(0), NONE);
        is("count(8)", x.count(8), 80);
        x.end(77);
        is("sign behind 77", x.sign(0), NONE);
        is("count(8)", x.count(8), 77);
        x.end(76);
        is("sign behind 76", x.sign(0), 80);
        x.end(0);
        x.sign('3' << 24 | ',' << 16 | '1' << 8 | '=');
        x.sign('2' << 24);
        x.end(5);
        is("map() of the signs, the highest byte first", x.map(), 1);
        is("get(0, 1)", x.get(0, 1), 2);
        x.sign(0xB3000000);
        x.end(1);
        is("map() of a sign above 127", x.map(), -1);
    }

    private static void end() {
        AbsenceTree x = new AbsenceTree();
        yes("end(0) of none", x.end(0));
        no("end(1) of none", x.end(1));
        x.sign(0);
        no("end(5)", x.end(5));
        no("end(-1)", x.end(-1));
        no("end(least)", x.end(Integer.MIN_VALUE));
        is("count(8)", x.count(8), 4);
        yes("end(4)", x.end(4));
        yes("end(2)", x.end(2));
        is("count(8)", x.count(8), 2);
        no("end(3)", x.end(3));
    }

    private static void mapGoesWrong(String text, int place) {
        AbsenceTree x = mapped("3,0=1");
        x.proof(0, 0);
        x.puts(1, 1);
        is("map() of " + text, write(x, text).map(), -1 - place);
        is("count(0) behind it", x.count(0), 3);
        is("count(2) behind it", x.count(2), 1);
        is("count(6) behind it", x.count(6), 1);
        is("count(8) behind it", x.count(8), 0);
    }

    private static void map() {
        AbsenceTree x = mapped("3,0=1");
        x.proof(0, 0);
        x.puts(1, 1);
        is("map()", write(x, "8,255=999,000=01,7=002").map(), 3);
        int[] due = {8, 256, 0, 1, 3, 1002, 0, 2, 0};
        for (int i = 0; i < due.length; i++) {
            is("count(" + i + ")", x.count(i), due[i]);
        }
        is("get(0, 255)", x.get(0, 255), 999);
        is("get(0, 0)", x.get(0, 0), 1);
        is("get(0, 7)", x.get(0, 7), 2);
        is("map() of a digit", write(x, "5").map(), 0);
        is("count(1)", x.count(1), 32);
        mapGoesWrong("", 0);
        mapGoesWrong("2", 0);
        mapGoesWrong("9", 0);
        mapGoesWrong("x", 0);
        mapGoesWrong("33", 1);
        mapGoesWrong("3,", 2);
        mapGoesWrong("3,=", 2);
        mapGoesWrong("3,8=1", 2);
        mapGoesWrong("4,16=1", 3);
        mapGoesWrong("8,256=1", 4);
        mapGoesWrong("3,0001=1", 5);
        mapGoesWrong("3,9999=1", 5);
        mapGoesWrong("3,1=1,01=2", 7);
        mapGoesWrong("3,1", 3);
        mapGoesWrong("3,1:", 3);
        mapGoesWrong("3,1=", 4);
        mapGoesWrong("3,1=x", 4);
        mapGoesWrong("3,1=0", 4);
        mapGoesWrong("3,1=000", 6);
        mapGoesWrong("3,1=0000", 7);
        mapGoesWrong("3,1=1000", 7);
        mapGoesWrong("3,1=1;", 5);
        mapGoesWrong("3,1=1,", 6);
        mapGoesWrong("3,1=-1", 4);
    }

    private static void batch() {
        AbsenceTree x = mapped("3,0=1,6=2");
        is("batch()", write(x, "1=3,2=4").batch(), 1);
        row(x, 6, 8);
        is("get(1, 1)", x.get(1, 1), 3);
        is("get(1, 0)", x.get(1, 0), 1);
        is("batch() with 0", write(x, "7=9,6=0,0=1").batch(), 2);
        row(x, 3 + 2 + 2 + 1, 12);
        is("get(2, 6)", x.get(2, 6), 0);
        is("all is so", write(x, "7=9,6=000").batch(), -200);
        row(x, 8, 12);
        is("count(8)", x.count(8), 0);
        is("empty", x.batch(), -1);
        String[] texts = {",1=1", "1=3,", "1=3,1=4", "8=1", "1=", "1", "0001=1", "1=1234", "1=1 ", "1=1,8888=1", "1=1=1"};
        int[] places = {0, 4, 4, 0, 2, 1, 3, 5, 3, 7, 3};
        for (int i = 0; i < texts.length; i++) {
            is("batch() of " + texts[i], write(x, texts[i]).batch(), -1 - places[i]);
            is("count(2) behind it", x.count(2), 2);
        }
        row(x, 8, 12);
        AbsenceTree y = mapped("8");
        y.sheet(0, 2, 39, 1, 0);
        is("two more than 39", write(y, "100=1,101=1").batch(), -300);
        is("one more than 39", write(y, "100=1").batch(), 2);
        is("one for another", write(y, "100=0,101=1").batch(), 3);
        is("count(4)", y.count(4), 40);
    }

    private static void sheet() {
        AbsenceTree x = new AbsenceTree();
        is("ints", x.sheet(14, 2, 2, 998, 5), 1);
        is("get(1, 14)", x.get(1, 14), 998);
        is("get(1, 15)", x.get(1, 15), 999);
        is("bytes", x.sheet(0, 0, 3, 127, 1), 2);
        is("get(2, 0)", x.get(2, 0), 127);
        is("get(2, 1)", x.get(2, 1), 0);
        is("bytes of 257", x.sheet(0, 0, 1, 257, 0), 3);
        is("get(3, 0)", x.get(3, 0), 1);
        is("shorts", x.sheet(0, 1, 3, 65535, 2), 4);
        is("get(4, 0)", x.get(4, 0), 0);
        is("get(4, 1)", x.get(4, 1), 1);
        is("get(4, 2)", x.get(4, 2), 3);
        is("ints go round", x.sheet(0, 2, 2, Integer.MAX_VALUE, 1), 5);
        is("get(5, 0)", x.get(5, 0), 999);
        is("get(5, 1)", x.get(5, 1), 0);
        is("all is so", x.sheet(14, 2, 2, 998, 5), -6);
        is("none of them", x.sheet(3, 0, 0, 7, 7), -6);
        is("below 0", x.sheet(0, 0, -1, 1, 1), -2);
        is("missing", x.sheet(0, 3, -1, 1, 1), -3);
        is("missing", x.sheet(0, 3, 40, 1, 1), -3);
        x.versions();
        is("no such key for an entry", x.sheet(13, 1, 40, 1, 1), -4);
        row(x, 3);
        is("no such key", x.sheet(16, 2, -1, 1, 1), NONE);
        is("no such key", x.sheet(-1, 3, 1, 1, 1), NONE);
        is("another kind", x.sheet(0, 4, 1, 1, 1), NONE);
        is("another kind", x.sheet(0, -1, 1, 1, 1), NONE);
        is("n above 40", x.sheet(0, 3, 41, 1, 1), NONE);
        is("n above 40", x.sheet(15, 2, Integer.MAX_VALUE, 1, 1), NONE);
        row(x, 3);
        is("count(2)", x.count(2), 5);
        AbsenceTree y = mapped("8,255=1");
        is("41", y.sheet(0, 2, 40, 1, 0), -5);
        is("40", y.sheet(216, 2, 40, 1, 0), 1);
        is("count(4)", y.count(4), 40);
    }

    private static void level() {
        AbsenceTree x = mapped(SMALL);
        is("level(0, 0)", x.level(0, 0), 3);
        row(x, 1, 2, 6);
        is("level(0, 1)", x.level(0, 1), 3);
        row(x, 0, 1, 3);
        is("level(0, 2)", x.level(0, 2), 2);
        row(x, 0, 1);
        is("level(0, 3)", x.level(0, 3), 1);
        row(x, 0);
        is("level(0, 4)", x.level(0, 4), NONE);
        is("level(0, -1)", x.level(0, -1), NONE);
        is("level(1, 0)", x.level(1, 0), NONE);
        is("level(-1, 0)", x.level(-1, 0), NONE);
        row(x, 0);
        x.clears(0, 7);
        is("level of bare ones", x.level(1, 3), 0);
        row(x);
    }

    private static void holes() {
        AbsenceTree x = mapped(SMALL);
        is("holes(0)", x.holes(0), 4);
        row(x, 1, 2, 5);
        x.clears(1, 2);
        is("holes(1)", x.holes(1), 3);
        row(x, 2, 0, 7);
        x.clears(0, 7);
        is("holes of nothing", x.holes(2), 1);
        row(x, 3, 0, 8);
        x.sheet(0, 2, 8, 1, 0);
        is("no holes", x.holes(3), 0);
        row(x, NONE, NONE, 0);
        is("holes(4)", x.holes(4), NONE);
        is("holes(-1)", x.holes(-1), NONE);
        row(x, NONE, NONE, 0);
    }

    private static void middle() {
        AbsenceTree x = mapped(SMALL);
        is("middle(0)", x.middle(0), 2);
        row(x, 12);
        x.puts(6, 12);
        is("just half", x.middle(1), 2);
        row(x, 12);
        x.puts(6, 13);
        is("less than half", x.middle(2), 6);
        row(x, 25);
        x.clears(0, 7);
        is("nothing", x.middle(3), -2);
        is("no version", x.middle(4), NONE);
        row(x, 25);
        is("the first key", mapped("3,0=1").middle(0), 0);
    }

    private static void getValue(AbsenceTree x, int version, int key) {
        boolean threw = false;
        try {
            x.get(version, key);
        } catch (NoSuchElementException e) {
            threw = true;
        }
        yes("get(" + version + ", " + key + ") throws NoSuchElementException", threw);
    }

    private static void get() {
        AbsenceTree x = mapped(SMALL);
        is("get(0, 6)", x.get(0, 6), 5);
        is("get(0, 7)", x.get(0, 7), 0);
        x.puts(6, 8);
        is("an old one", x.get(0, 6), 5);
        is("a new one", x.get(1, 6), 8);
        getValue(x, 0, 8);
        getValue(x, 0, -1);
        getValue(x, 2, 0);
        getValue(x, -1, 0);
        for (int i = 0; i < 11; i++) {
            x.puts(0, i + 1);
        }
        getValue(x, 0, 0);
        is("the oldest that is kept", x.get(1, 6), 8);
    }

    private static void root() {
        AbsenceTree x = mapped(SMALL);
        is("root(0)", x.root(0), 3);
        row(x, SMALL_ROOT);
        x.puts(2, 0);
        is("root(1)", x.root(1), 2);
        row(x, h(h(LEFT1, bareMark(1)), RIGHT));
        is("the old root", x.root(0), 3);
        row(x, SMALL_ROOT);
        is("root(2)", x.root(2), NONE);
        is("root(-1)", x.root(-1), NONE);
        row(x, SMALL_ROOT);
    }

    private static void node() {
        AbsenceTree x = mapped(SMALL);
        is("node(0, 0, 6)", x.node(0, 0, 6), 0);
        row(x, leaf(6, 5));
        is("node(0, 0, 7)", x.node(0, 0, 7), 1);
        row(x, 0);
        is("node(0, 1, 2)", x.node(0, 1, 2), 1);
        row(x, h(0, 0));
        is("node(0, 2, 1)", x.node(0, 2, 1), 0);
        row(x, RIGHT);
        is("node(0, 3, 0)", x.node(0, 3, 0), 0);
        row(x, SMALL_ROOT);
        int[][] none = {{0, 3, 1}, {0, 4, 0}, {0, -1, 0}, {0, 0, 8}, {0, 0, -1}, {1, 0, 0}, {-1, 0, 0}, {0, 40, 0}};
        for (int[] n : none) {
            is("node of none", x.node(n[0], n[1], n[2]), NONE);
        }
        row(x, SMALL_ROOT);
    }

    private static void nodes() {
        AbsenceTree x = mapped(SMALL);
        is("nodes(0)", x.nodes(0), 9);
        row(x, 3, 3, 2, 1);
        is("nodes(1)", x.nodes(1), NONE);
        row(x, 3, 3, 2, 1);
        x.clears(0, 7);
        is("nodes of nothing", x.nodes(1), 0);
        row(x, 0, 0, 0, 0);
    }

    private static void key() {
        AbsenceTree x = mapped(SMALL);
        is("key(0, 0)", x.key(0, 0), 1);
        row(x, 5);
        is("key(0, 1)", x.key(0, 1), 2);
        row(x, 7);
        is("key(0, 2)", x.key(0, 2), 6);
        row(x, 5);
        is("key(0, 3)", x.key(0, 3), NONE);
        is("key(0, -1)", x.key(0, -1), NONE);
        is("key(1, 0)", x.key(1, 0), NONE);
        row(x, 5);
    }

    private static void near() {
        AbsenceTree x = mapped(SMALL);
        is("near(0, 2)", x.near(0, 2), 1);
        row(x, 1, 6);
        is("near(0, 0)", x.near(0, 0), 0);
        row(x, NONE, 1);
        is("near(0, 7)", x.near(0, 7), 3);
        row(x, 6, NONE);
        is("near(0, 8)", x.near(0, 8), NONE);
        is("near(0, -1)", x.near(0, -1), NONE);
        is("near(1, 0)", x.near(1, 0), NONE);
        row(x, 6, NONE);
    }

    private static void sum() {
        AbsenceTree x = mapped(SMALL);
        is("sum(0, 0, 7)", x.sum(0, 0, 7), 17);
        row(x, 3, 7);
        is("sum(0, 2, 6)", x.sum(0, 2, 6), 12);
        row(x, 2, 7);
        is("sum(0, 6, 6)", x.sum(0, 6, 6), 5);
        row(x, 1, 5);
        is("sum(0, 3, 5)", x.sum(0, 3, 5), 0);
        row(x, 0, 0);
        is("sum(0, 3, 2)", x.sum(0, 3, 2), NONE);
        is("sum(0, 3, 8)", x.sum(0, 3, 8), NONE);
        is("sum(0, -1, 3)", x.sum(0, -1, 3), NONE);
        is("sum(1, 0, 3)", x.sum(1, 0, 3), NONE);
        row(x, 0, 0);
    }

    private static void with() {
        AbsenceTree x = mapped(SMALL);
        is("with(0, 5)", x.with(0, 5), 2);
        row(x, 1, 6);
        is("with(0, 0)", x.with(0, 0), NONE);
        is("with(0, 1000)", x.with(0, 1000), NONE);
        is("with(1, 5)", x.with(1, 5), NONE);
        row(x, 1, 6);
        is("with(0, 999)", x.with(0, 999), 0);
        row(x);
    }

    private static void proof() {
        AbsenceTree x = mapped(SMALL);
        is("proof(0, 2)", x.proof(0, 2), 2);
        row(x, 7, 6, LEFT1, RIGHT);
        is("accepts(0)", x.accepts(0), 1);
        is("of one that is not", x.proof(0, 7), 2);
        row(x, 0, 5, leaf(6, 5), LEFT);
        is("accepts(0)", x.accepts(0), 1);
        is("proof(0, 8)", x.proof(0, 8), NONE);
        is("proof(0, -1)", x.proof(0, -1), NONE);
        is("proof(1, 0)", x.proof(1, 0), NONE);
        is("what is in hand stays", x.hand(), 2);
        row(x, 7, 0, 5, leaf(6, 5), LEFT);
        x.clears(0, 7);
        is("proof in nothing", x.proof(1, 3), 0);
        row(x, 0, 0);
    }

    private static void alters() {
        AbsenceTree x = mapped(SMALL);
        no("nothing in hand", x.alters(0, 1));
        x.proof(0, 2);
        yes("KEY", x.alters(0, 255));
        yes("VALUE", x.alters(1, 999));
        yes("BITS", x.alters(2, 255));
        yes("MARK 0", x.alters(3, Integer.MIN_VALUE));
        yes("MARK 1", x.alters(4, -7));
        int[][] none = {{0, 256}, {0, -1}, {1, 1000}, {1, -1}, {2, 256}, {2, -1}, {5, 0}, {10, 0}, {11, 0}, {-1, 0},
            {Integer.MAX_VALUE, 0}, {Integer.MIN_VALUE, 0}};
        for (int[] n : none) {
            no("alters(" + n[0] + ", " + n[1] + ")", x.alters(n[0], n[1]));
        }
        is("hand()", x.hand(), 2);
        row(x, 255, 999, 255, Integer.MIN_VALUE, -7);
        yes("KEY 0", x.alters(0, 0));
        yes("VALUE 0", x.alters(1, 0));
        yes("BITS 0", x.alters(2, 0));
        is("hand()", x.hand(), 2);
        row(x, 0, 0, 0, Integer.MIN_VALUE, -7);
        write(x, "1=1:255:1:2:3:4:5:6:7:8").told();
        yes("MARK 7", x.alters(10, 80));
        no("MARK 8", x.alters(11, 80));
    }

    private static void told() {
        AbsenceTree x = mapped(SMALL);
        is("told()", write(x, "255=999:255").told(), 0);
        is("hand()", x.hand(), 0);
        row(x, 255, 999, 255);
        is("told()", write(x, "2=7:6:" + LEFT1 + ":" + RIGHT).told(), 2);
        is("accepts(0)", x.accepts(0), 1);
        is("told()", write(x, "000=0:001:-2147483648:2147483647:-0:0000000012").told(), 4);
        is("hand()", x.hand(), 4);
        row(x, 0, 0, 1, Integer.MIN_VALUE, Integer.MAX_VALUE, 0, 12);
        is("told() of eight", write(x, "1=2:3:1:2:3:4:5:6:7:8").told(), 8);
        String[] texts = {"", "=", "256=1:1", "0255=1:1", "9999=1:1", "1", "1:", "1=", "1=1000:1", "1=1", "1=1:", "1=1:256", "1=1:1111",
            "1=1:1:", "1=1:1:-", "1=1:1:x", "1=1:1:2147483648", "1=1:1:-2147483649", "1=1:1:00000000001", "1=1:1:99999999999",
            "1=1:1:9999999999", "1=1:1:--1", "1=1:1,", "1=2:3:1:2:3:4:5:6:7:8:9", "1=2:3:1:2:3:4:5:6:7:8,"};
        int[] places = {0, 0, 2, 3, 3, 1, 1, 2, 5, 3, 4, 6, 7,
            6, 7, 6, 15, 16, 16, 16,
            15, 7, 5, 21, 21};
        for (int i = 0; i < texts.length; i++) {
            is("told() of " + texts[i], write(x, texts[i]).told(), -1 - places[i]);
            is("count(8)", x.count(8), 0);
        }
        is("what is in hand stays", x.hand(), 8);
        AbsenceTree y = new AbsenceTree();
        write(y, "1=").told();
        is("nothing is in hand", y.count(6), 0);
    }

    private static void hand() {
        AbsenceTree x = mapped(SMALL);
        x.versions();
        is("nothing", x.hand(), -2);
        row(x, 0, 0);
        x.proof(0, 6);
        x.versions();
        is("hand()", x.hand(), 1);
        row(x, 6, 5, 4, LEFT);
    }

    private static void accepts() {
        AbsenceTree x = mapped(SMALL);
        is("nothing in hand", x.accepts(0), -2);
        is("no version first", x.accepts(1), NONE);
        x.proof(0, 6);
        is("accepts(0)", x.accepts(0), 1);
        row(x, SMALL_ROOT);
        is("accepts(1)", x.accepts(1), NONE);
        row(x, SMALL_ROOT);
        x.alters(1, 6);
        is("another value", x.accepts(0), 0);
        row(x, h(LEFT, h(bareMark(1), h(leaf(6, 6), 0))));
        x.puts(6, 6);
        is("of the next version", x.accepts(1), 1);
        x.alters(2, 4 | 8 | 128);
        is("bits above the levels", x.accepts(1), 1);
        x.alters(2, 5);
        is("a mark that there is not is 0", x.accepts(1), 0);
        row(x, h(0, h(bareMark(1), h(leaf(6, 6), LEFT))));
        x.alters(2, 0);
        is("bare ones alone", x.accepts(1), 0);
        row(x, h(bareMark(2), h(bareMark(1), h(leaf(6, 6), 0))));
        x.alters(0, 8);
        is("no such key", x.accepts(1), 0);
        row(x, 0);
        write(x, "6=6:4:" + LEFT + ":77").told();
        is("one mark too many", x.accepts(1), 1);
    }

    private static void accepted() {
        AbsenceTree x = mapped(SMALL);
        x.root(0);
        is("nothing in hand", x.accepted(), -2);
        row(x, SMALL_ROOT);
        x.proof(0, 6);
        is("accepted()", x.accepted(), 1);
        row(x, 0);
        x.puts(1, 6);
        x.puts(1, 5);
        is("accepted()", x.accepted(), 2);
        row(x, 0, 2);
        x.alters(0, 14);
        is("no such key", x.accepted(), 0);
        row(x);
    }

    private static void bare() {
        AbsenceTree x = mapped(SMALL);
        is("bare(0, 0)", x.bare(0, 0), 0);
        row(x, 0, 1, 3);
        is("bare(0, 5)", x.bare(0, 5), 1);
        row(x, 4, 2, 2);
        x.puts(6, 0);
        is("bare(1, 7)", x.bare(1, 7), 2);
        row(x, 4, 4, 1);
        is("it has a value", x.bare(0, 6), -2);
        is("bare(0, 8)", x.bare(0, 8), NONE);
        is("bare(2, 0)", x.bare(2, 0), NONE);
        row(x, 4, 4, 1);
        x.clears(0, 7);
        is("bare(2, 3)", x.bare(2, 3), 3);
        row(x, 0, 8, 0);
    }

    private static void together() {
        AbsenceTree x = mapped(SMALL);
        is("1,2", write(x, "1,2").together(0), 1);
        row(x, 4, 2 + 1 + 1 + 2);
        is("all", write(x, "6,002,1").together(0), 0);
        row(x, 5, 3 + 2 + 1 + 3);
        is("0,3", write(x, "0,3").together(0), 3);
        row(x, 6, 6);
        is("7", write(x, "7").together(0), 2);
        row(x, 2, 4);
        is("no version first", write(x, "").together(1), -200);
        is("no version", write(x, "1").together(1), -200);
        is("the text is emptied", x.count(8), 0);
        String[] texts = {"", "8", "1,", "1,1", "1,01", "1=2", "0001", ",1", "12", "1,2,x"};
        int[] places = {0, 0, 2, 2, 3, 1, 3, 0, 1, 4};
        for (int i = 0; i < texts.length; i++) {
            is("together() of " + texts[i], write(x, texts[i]).together(0), -1 - places[i]);
            is("count(8)", x.count(8), 0);
        }
        row(x, 2, 4);
    }

    private static void others() {
        AbsenceTree x = mapped(SMALL);
        is("others(0, 6)", x.others(0, 6), 1);
        row(x, RIGHT);
        is("others(0, 1)", x.others(0, 1), 1);
        row(x, LEFT1);
        is("the key has none", x.others(0, 0), NONE);
        is("no key", x.others(0, 8), NONE);
        is("no key", x.others(0, -1), NONE);
        is("no version", x.others(1, 1), NONE);
        row(x, LEFT1);
        is("the only one", mapped("3,1=5").others(0, 1), 0);
        AbsenceTree y = mapped("3,0=1,1=2");
        is("others(0, 0)", y.others(0, 0), 1);
        row(y, leaf(0, 1));
    }

    private static void path() {
        AbsenceTree x = mapped(SMALL);
        is("path(0, 6)", x.path(0, 6), 0);
        row(x, leaf(6, 5), SIX, RIGHT, SMALL_ROOT);
        is("path(0, 7)", x.path(0, 7), 1);
        row(x, 0, SIX, RIGHT, SMALL_ROOT);
        is("path(0, 4)", x.path(0, 4), 2);
        row(x, 0, bareMark(1), RIGHT, SMALL_ROOT);
        is("path(0, 8)", x.path(0, 8), NONE);
        is("path(1, 0)", x.path(1, 0), NONE);
        row(x, 0, bareMark(1), RIGHT, SMALL_ROOT);
        x.puts(6, 0);
        is("path(1, 4)", x.path(1, 4), 3);
        x.clears(0, 7);
        is("path(2, 4)", x.path(2, 4), 4);
    }

    private static void stretch() {
        AbsenceTree x = mapped(SMALL);
        is("stretch(0, 1, 6)", x.stretch(0, 1, 6), 4);
        row(x, 1, 1001, 1002, 6, 0);
        is("stretch(0, 0, 7)", x.stretch(0, 0, 7), 1);
        row(x, 3000, 0);
        is("stretch(0, 4, 7)", x.stretch(0, 4, 7), 1);
        row(x, 2001, 1);
        is("stretch(0, 3, 4)", x.stretch(0, 3, 4), 2);
        row(x, 3, 4, 3);
        is("stretch(0, 2, 2)", x.stretch(0, 2, 2), 1);
        row(x, 2, 2);
        is("stretch(0, 3, 2)", x.stretch(0, 3, 2), NONE);
        is("stretch(0, 3, 8)", x.stretch(0, 3, 8), NONE);
        is("stretch(0, -1, 3)", x.stretch(0, -1, 3), NONE);
        is("stretch(1, 1, 3)", x.stretch(1, 1, 3), NONE);
        row(x, 2, 2);
        AbsenceTree y = mapped("8,0=1,255=1");
        is("stretch(0, 0, 255)", y.stretch(0, 0, 255), 1);
        row(y, 8000, 0);
        is("stretch(0, 1, 254)", y.stretch(0, 1, 254), 14);
        row(y, 1, 1001, 2001, 3001, 4001, 5001, 6001, 6002, 5006, 4014, 3030, 2062, 1126, 254, 2);
    }

    private static void forks() {
        AbsenceTree x = mapped(SMALL);
        is("forks(0, 6, 6)", x.forks(0, 6, 6), 0);
        row(x, 1, 6);
        is("forks(0, 6, 7)", x.forks(0, 6, 7), 1);
        row(x, 1, 6);
        is("forks(0, 3, 0)", x.forks(0, 3, 0), 2);
        row(x, 2, 0);
        is("forks(0, 3, 4)", x.forks(0, 3, 4), 3);
        row(x, 3, 0);
        is("forks(0, 3, 8)", x.forks(0, 3, 8), NONE);
        is("forks(0, -1, 3)", x.forks(0, -1, 3), NONE);
        is("forks(1, 1, 3)", x.forks(1, 1, 3), NONE);
        row(x, 3, 0);
    }

    /** Versions 0 to 3 of a map: SMALL; 1 has 6; 6 has none; as 0. */
    private static AbsenceTree four() {
        AbsenceTree x = mapped(SMALL);
        is("puts(1, 6)", x.puts(1, 6), 1);
        is("puts(6, 0)", x.puts(6, 0), 2);
        is("back(0)", x.back(0), 3);
        return x;
    }

    private static void shared() {
        AbsenceTree x = four();
        is("shared(0, 1)", x.shared(0, 1), 5);
        row(x, 4, 4);
        is("shared(1, 2)", x.shared(1, 2), 5);
        row(x, 4, 1);
        is("shared(2, 1)", x.shared(2, 1), 5);
        row(x, 1, 4);
        is("shared(0, 3)", x.shared(0, 3), 9);
        row(x, 0, 0);
        is("shared(0, 4)", x.shared(0, 4), NONE);
        is("shared(-1, 0)", x.shared(-1, 0), NONE);
        row(x, 0, 0);
    }

    private static void differ() {
        AbsenceTree x = four();
        is("differ(0, 2)", x.differ(0, 2), 2);
        row(x, 1, 6);
        is("differ(1, 0)", x.differ(1, 0), 1);
        row(x, 1);
        is("differ(0, 4)", x.differ(0, 4), NONE);
        is("differ(4, 0)", x.differ(4, 0), NONE);
        row(x, 1);
        is("differ(0, 3)", x.differ(0, 3), 0);
        row(x);
    }

    private static void looks() {
        AbsenceTree x = four();
        x.versions();
        is("looks(0, 3)", x.looks(0, 3), 1);
        is("looks(0, 1)", x.looks(0, 1), 7);
        is("looks(0, 2)", x.looks(0, 2), 11);
        is("looks(0, 4)", x.looks(0, 4), NONE);
        is("looks(-1, 0)", x.looks(-1, 0), NONE);
        row(x, 0, 3);
    }

    private static void all() {
        AbsenceTree x = four();
        is("all()", x.all(), 9 + 4 + 1);
        row(x, 9 + 9 + 6 + 9);
        AbsenceTree y = new AbsenceTree();
        is("all() of nothing", y.all(), 0);
        row(y, 0);
    }

    private static void history() {
        AbsenceTree x = four();
        is("history(1)", x.history(1), 2);
        row(x, 0, 5, 1, 6, 3, 5);
        is("history(6)", x.history(6), 2);
        row(x, 0, 5, 2, 0, 3, 5);
        is("history(8)", x.history(8), NONE);
        is("history(-1)", x.history(-1), NONE);
        row(x, 0, 5, 2, 0, 3, 5);
        is("history(2)", x.history(2), 0);
        row(x, 0, 7);
        for (int i = 0; i < 10; i++) {
            x.puts(0, i + 1);
        }
        is("history(1)", x.history(1), 1);
        row(x, 2, 6, 3, 5);
    }

    private static void hot() {
        AbsenceTree x = mapped(SMALL);
        x.versions();
        is("nothing yet", x.hot(), -2);
        row(x, 0, 0);
        x.puts(6, 1);
        is("hot()", x.hot(), 6);
        row(x, 1);
        x.puts(2, 1);
        is("of equal ones the least", x.hot(), 2);
        row(x, 1);
        x.puts(6, 2);
        is("hot()", x.hot(), 6);
        row(x, 2);
    }

    private static void would() {
        AbsenceTree x = mapped(SMALL);
        is("would(0, 2, 0)", x.would(0, 2, 0), 2);
        row(x, h(h(LEFT1, bareMark(1)), RIGHT), 4);
        is("would(0, 2, 7)", x.would(0, 2, 7), 3);
        row(x, SMALL_ROOT, 0);
        is("would(0, 7, 9)", x.would(0, 7, 9), 4);
        row(x, h(LEFT, h(bareMark(1), h(leaf(6, 5), leaf(7, 9)))), 4);
        is("would(0, 7, 999)", x.would(0, 7, 999), 4);
        int count = x.count(7);
        is("would(0, 8, 1)", x.would(0, 8, 1), NONE);
        is("would(0, 1, 1000)", x.would(0, 1, 1000), NONE);
        is("would(0, 1, -1)", x.would(0, 1, -1), NONE);
        is("would(1, 1, 1)", x.would(1, 1, 1), NONE);
        is("count(7)", x.count(7), count);
        is("nothing is changed", x.count(2), 0);
        x.root(0);
        row(x, SMALL_ROOT);
        AbsenceTree y = mapped("8");
        y.sheet(0, 2, 40, 1, 0);
        is("41, too", y.would(1, 100, 1), 41);
        is("an old one", y.would(0, 100, 1), 1);
    }

    private static void against() {
        AbsenceTree x = mapped(SMALL);
        x.puts(1, 6);
        x.puts(2, 8);
        x.back(0);
        write(x, "1=7,2=8,6=9").batch();
        is("against(2, 4, 0)", x.against(2, 4, 0), 1);
        row(x, 1);
        is("against(4, 2, 0)", x.against(4, 2, 0), 1);
        row(x, 1);
        is("against(0, 4, 2)", x.against(0, 4, 2), 1);
        row(x, 1);
        is("no version", x.against(2, 4, 5), NONE);
        is("no version", x.against(2, 5, 0), NONE);
        is("no version", x.against(-1, 4, 0), NONE);
        row(x, 1);
        is("against(2, 3, 0)", x.against(2, 3, 0), 0);
        row(x);
        is("against(2, 2, 0)", x.against(2, 2, 0), 0);
    }

    private static void versions() {
        AbsenceTree x = new AbsenceTree();
        is("versions()", x.versions(), 1);
        row(x, 0, 0);
        for (int i = 1; i <= 11; i++) {
            x.puts(0, i);
        }
        is("versions()", x.versions(), 12);
        row(x, 0, 11);
        x.puts(0, 12);
        is("versions()", x.versions(), 12);
        row(x, 1, 12);
        x.undo();
        is("versions()", x.versions(), 11);
        row(x, 1, 11);
    }

    private static void since() {
        AbsenceTree x = four();
        is("since(1)", x.since(1), 2);
        row(x, 6);
        is("since(6)", x.since(6), 2);
        row(x, 0);
        is("since(2)", x.since(2), -2);
        is("since(8)", x.since(8), NONE);
        is("since(-1)", x.since(-1), NONE);
        row(x, 0);
        x.puts(0, 1);
        x.puts(0, 2);
        is("since(1)", x.since(1), 2);
        row(x, 6);
    }

    private static void puts() {
        AbsenceTree x = mapped(SMALL);
        x.root(0);
        is("puts(7, 999)", x.puts(7, 999), 1);
        is("get(1, 7)", x.get(1, 7), 999);
        is("puts(7, 0)", x.puts(7, 0), 2);
        is("it is so", x.puts(7, 0), -2);
        is("it is so", x.puts(6, 5), -2);
        is("no key", x.puts(8, 1), NONE);
        is("no key", x.puts(-1, 1), NONE);
        is("no value", x.puts(1, 1000), NONE);
        is("no value", x.puts(1, -1), NONE);
        is("count(2)", x.count(2), 2);
        row(x, SMALL_ROOT);
        AbsenceTree y = mapped("8");
        y.sheet(0, 2, 40, 1, 0);
        is("41", y.puts(40, 1), -5);
        is("one of them", y.puts(39, 2), 2);
    }

    private static void moves() {
        AbsenceTree x = mapped(SMALL);
        is("moves(2, 7)", x.moves(2, 7), 1);
        is("get(1, 7)", x.get(1, 7), 7);
        is("get(1, 2)", x.get(1, 2), 0);
        is("it has none", x.moves(2, 0), -2);
        is("it has none, that has one", x.moves(2, 7), -2);
        is("that has one", x.moves(7, 6), -3);
        is("both are one", x.moves(7, 7), NONE);
        is("no key", x.moves(7, 8), NONE);
        is("no key", x.moves(-1, 0), NONE);
        is("count(2)", x.count(2), 1);
    }

    private static void flips() {
        AbsenceTree x = mapped(SMALL);
        is("flips(7)", x.flips(7), 1);
        is("get(1, 6)", x.get(1, 6), 5);
        is("get(1, 5)", x.get(1, 5), 7);
        is("get(1, 1)", x.get(1, 1), 5);
        is("get(1, 2)", x.get(1, 2), 0);
        is("flips(1)", x.flips(1), 2);
        is("get(2, 4)", x.get(2, 4), 7);
        is("flips(8)", x.flips(8), NONE);
        is("flips(0)", x.flips(0), NONE);
        is("flips(-1)", x.flips(-1), NONE);
        x.clears(0, 7);
        write(x, "0=1,1=1").batch();
        is("all is so then", x.flips(1), -2);
        is("flips(2)", x.flips(2), 5);
    }

    private static void swaps() {
        AbsenceTree x = mapped(SMALL);
        is("swaps(1, 2)", x.swaps(1, 2), 1);
        is("get(1, 1)", x.get(1, 1), 7);
        is("get(1, 2)", x.get(1, 2), 5);
        is("swaps(1, 0)", x.swaps(1, 0), 2);
        is("get(2, 1)", x.get(2, 1), 0);
        is("alike", x.swaps(2, 6), -2);
        is("none", x.swaps(3, 4), -2);
        is("both are one", x.swaps(3, 3), NONE);
        is("no key", x.swaps(3, 8), NONE);
        is("no key", x.swaps(-1, 3), NONE);
        is("count(2)", x.count(2), 2);
    }

    private static void back() {
        AbsenceTree x = mapped(SMALL);
        x.puts(0, 1);
        x.puts(1, 1);
        is("it is so", x.back(2), -2);
        is("back(0)", x.back(0), 3);
        x.root(3);
        row(x, SMALL_ROOT);
        is("it is so", x.back(0), -2);
        is("no version", x.back(4), NONE);
        is("no version", x.back(-1), NONE);
        for (int i = 0; i < 8; i++) {
            x.puts(0, i + 2);
        }
        is("to the oldest one, that goes then", x.back(0), 12);
        is("root(0)", x.root(0), NONE);
        x.root(12);
        row(x, SMALL_ROOT);
    }

    private static void joins() {
        AbsenceTree x = mapped(SMALL);
        x.puts(1, 6);
        x.back(0);
        x.puts(6, 0);
        x.versions();
        is("joins(1, 3, 0)", x.joins(1, 3, 0), 4);
        row(x, 0, 3);
        is("get(4, 1)", x.get(4, 1), 6);
        is("get(4, 2)", x.get(4, 2), 7);
        is("get(4, 6)", x.get(4, 6), 0);
        is("all is so", x.joins(3, 1, 0), -2);
        x.back(0);
        x.puts(1, 9);
        x.puts(2, 9);
        is("against", x.joins(1, 6, 0), -4);
        row(x, 1);
        is("no version", x.joins(1, 8, 0), NONE);
        is("no version", x.joins(8, 1, 0), NONE);
        is("no version", x.joins(1, 6, -1), NONE);
        is("count(2)", x.count(2), 7);
        AbsenceTree y = mapped("8");
        y.sheet(0, 2, 21, 1, 0);
        y.back(0);
        y.sheet(100, 2, 20, 1, 0);
        is("41", y.joins(1, 3, 0), -5);
        y.puts(119, 0);
        is("40", y.joins(1, 4, 0), 5);
    }

    private static void clears() {
        AbsenceTree x = mapped(SMALL);
        is("clears(2, 5)", x.clears(2, 5), 1);
        is("get(1, 2)", x.get(1, 2), 0);
        is("get(1, 1)", x.get(1, 1), 5);
        is("none has one", x.clears(2, 5), -2);
        is("clears(3, 2)", x.clears(3, 2), NONE);
        is("clears(3, 8)", x.clears(3, 8), NONE);
        is("clears(-1, 3)", x.clears(-1, 3), NONE);
        is("clears(6, 6)", x.clears(6, 6), 2);
        is("count(4)", x.count(4), 1);
    }

    private static void day() {
        AbsenceTree x = mapped(SMALL);
        is("an empty one", x.day(), 0);
        row(x, 0, 0);
        is("a day", write(x, "p000003m000005s001002c006007b00").day(), 5);
        row(x, 0, 5);
        is("get(1, 0)", x.get(1, 0), 3);
        is("get(2, 5)", x.get(2, 5), 3);
        is("get(3, 1)", x.get(3, 1), 7);
        is("get(4, 6)", x.get(4, 6), 0);
        x.root(5);
        row(x, SMALL_ROOT);
        is("count(8)", x.count(8), 0);
        is("till one can't be", write(x, "p000009p000009p000001").day(), 1);
        row(x, 1, 6);
        is("none can be", write(x, "b99p000001").day(), 0);
        row(x, 1, 6);
        String[] texts = {"x", "p", "p00", "p00000", "p000001q", "b", "b1", "b1x", "p00x001", "p000001b0", "P000001", "p000 01"};
        int[] places = {0, 1, 3, 6, 7, 1, 2, 2, 3, 9, 0, 4};
        for (int i = 0; i < texts.length; i++) {
            is("day() of " + texts[i], write(x, texts[i]).day(), -1 - places[i]);
            is("count(8)", x.count(8), 0);
            is("nothing is done", x.count(2), 6);
        }
        row(x, 1, 6);
    }

    private static void undo() {
        AbsenceTree x = mapped(SMALL);
        is("the only one", x.undo(), NONE);
        x.puts(0, 1);
        x.proof(1, 0);
        is("undo()", x.undo(), 0);
        is("count(3)", x.count(3), 1);
        is("count(4)", x.count(4), 3);
        is("what is in hand stays", x.count(6), 1);
        is("root(1)", x.root(1), NONE);
        is("undo()", x.undo(), NONE);
        is("the next one", x.puts(0, 2), 1);
        for (int i = 0; i < 12; i++) {
            x.puts(0, i + 10);
        }
        for (int i = 12; i >= 2; i--) {
            is("undo()", x.undo(), i);
        }
        is("those that went stay away", x.undo(), NONE);
        is("count(2)", x.count(2), 2);
    }

    private static void years() {
        AbsenceTree x = mapped(SMALL);
        x.proof(0, 1);
        // by hand: seed 0 draws 12345, of which the high half is 0: KEY 0; the next ones tell the rest
        int r = 12345;
        int key = (r >>> 16) % 8;
        r = r * 1103515245 + 12345;
        boolean clears = (r >>> 16) % 4 == 0;
        r = r * 1103515245 + 12345;
        int value = clears ? 0 : (r >>> 16) % 999 + 1;
        is("years(0, 1)", x.years(0, 1), clears ? 3 : 4);
        long told = x.row(0);
        int size = x.count(7);
        is("numbers of the row", size, 2);
        is("it is forgotten", x.count(2), 0);
        is("it is forgotten", x.count(4), 3);
        is("what is in hand stays", x.count(6), 1);
        x.would(0, key, value);
        is("the root then", x.row(0), told);
        is("years(1, 0)", x.years(1, 0), NONE);
        is("years(1, 61)", x.years(1, 61), NONE);
        is("years(1, -1)", x.years(1, -1), NONE);
        AbsenceTree y = mapped("8");
        int most = y.years(7, 60);
        long root = y.row(0);
        is("the same again", y.years(7, 60), most);
        is("the same again", y.row(0), root);
        yes("at most 40", most <= 40);
    }

    private static void keep() {
        AbsenceTree x = mapped(SMALL);
        yes("keep(0)", x.keep(0));
        yes("keep(1)", x.keep(1));
        no("keep(2)", x.keep(2));
        no("keep(-1)", x.keep(-1));
        x.puts(0, 1);
        yes("keep(0) anew", x.keep(0));
        x.puts(0, 2);
        yes("again(0)", x.again(0));
        is("count(2)", x.count(2), 1);
        yes("again(1)", x.again(1));
        is("count(2)", x.count(2), 0);
    }

    private static void again() {
        AbsenceTree x = mapped(SMALL);
        no("nothing kept", x.again(0));
        x.puts(0, 1);
        x.keep(0);
        no("nothing kept", x.again(1));
        no("again(2)", x.again(2));
        no("again(-1)", x.again(-1));
        for (int i = 0; i < 20; i++) {
            x.puts(0, i + 2);
        }
        write(x, "5,31=7").map();
        x.proof(0, 31);
        no("refused", x.again(1));
        is("count(6)", x.count(6), 1);
        yes("again(0)", x.again(0));
        is("nothing is in hand", x.count(6), 0);
        is("count(0)", x.count(0), 3);
        is("versions()", x.versions(), 2);
        row(x, 0, 1);
        x.root(0);
        row(x, SMALL_ROOT);
        is("get(1, 0)", x.get(1, 0), 1);
        is("changes go on", x.puts(0, 9), 2);
        yes("again(0) once more", x.again(0));
        is("count(2)", x.count(2), 1);
        is("get(1, 0)", x.get(1, 0), 1);
    }

    private static void count() {
        AbsenceTree x = mapped("5,31=999,0=1");
        x.puts(1, 10);
        x.proof(1, 0);
        x.sign(0);
        int[] due = {5, 32, 1, 2, 3, 1010, 1, 4, 4};
        for (int i = 0; i < due.length; i++) {
            is("count(" + i + ")", x.count(i), due[i]);
        }
        is("count(9)", x.count(9), NONE);
        is("count(-1)", x.count(-1), NONE);
    }

    private static void rowNumber(AbsenceTree x, int i) {
        boolean threw = false;
        try {
            x.row(i);
        } catch (NoSuchElementException e) {
            threw = true;
        }
        yes("row(" + i + ") throws NoSuchElementException", threw);
    }

    private static void row() {
        AbsenceTree x = new AbsenceTree();
        rowNumber(x, 0);
        x.versions();
        is("row(1)", x.row(1), 0);
        rowNumber(x, 2);
        rowNumber(x, -1);
        rowNumber(x, Integer.MAX_VALUE);
        rowNumber(x, Integer.MIN_VALUE);
        x.holes(0);
        is("row(2)", x.row(2), 16);
        x.root(0);
        is("a mark below 0", x.row(0), bareMark(4));
        rowNumber(x, 1);
        x.keep(0);
        x.puts(0, 1);
        x.looks(0, 1);
        x.undo();
        x.again(0);
        x.get(0, 0);
        write(x, "4").map();
        is("calls that do not tell of it", x.count(7), 1);
    }

    /** Two maps of unlike values and like marks, which there are by chance: values tell nodes apart, not marks. */
    private static void likeByChance() {
        java.util.Map<Integer, Integer> known = new java.util.HashMap<>();
        for (int pair = 0; pair < 998 * 998; pair++) {
            int one = 1 + pair / 998;
            int two = 1 + pair % 998;
            Integer other = known.put(h(leaf(0, one), leaf(1, two)), pair);
            if (other != null) {
                likeByChance(1 + other / 998, 1 + other % 998, one, two);
                return;
            }
        }
        is("two maps of like marks", 0, 1);
    }

    private static void likeByChance(int a, int b, int c, int d) {
        AbsenceTree x = mapped("3,0=" + a + ",1=" + b);
        is("batch()", write(x, "0=" + c + ",1=" + d).batch(), 1);
        x.root(0);
        long root = x.row(0);
        x.root(1);
        row(x, root);
        is("differ(0, 1)", x.differ(0, 1), 2);
        is("shared(0, 1)", x.shared(0, 1), 0);
        row(x, 5, 5);
        is("looks(0, 1)", x.looks(0, 1), 7);
        is("all()", x.all(), 10);
        row(x, 10);
        x.proof(0, 6);
        is("accepted()", x.accepted(), 2);
        row(x, 0, 1);
        is("back(0)", x.back(0), 2);
        is("get(2, 0)", x.get(2, 0), a);
        is("all()", x.all(), 10);
        row(x, 15);
    }

    public static void main(String[] args) {
        Runnable[] promises = {
            PromisesTest::newObject, PromisesTest::sign, PromisesTest::end, PromisesTest::map, PromisesTest::batch,
            PromisesTest::sheet, PromisesTest::level, PromisesTest::holes, PromisesTest::middle, PromisesTest::get,
            PromisesTest::root, PromisesTest::node, PromisesTest::nodes, PromisesTest::key, PromisesTest::near,
            PromisesTest::sum, PromisesTest::with, PromisesTest::proof, PromisesTest::alters, PromisesTest::told,
            PromisesTest::hand, PromisesTest::accepts, PromisesTest::accepted, PromisesTest::bare, PromisesTest::together,
            PromisesTest::others, PromisesTest::path, PromisesTest::stretch, PromisesTest::forks, PromisesTest::shared,
            PromisesTest::differ, PromisesTest::looks, PromisesTest::all, PromisesTest::history, PromisesTest::hot,
            PromisesTest::would, PromisesTest::against, PromisesTest::versions, PromisesTest::since, PromisesTest::puts,
            PromisesTest::moves, PromisesTest::flips, PromisesTest::swaps, PromisesTest::back, PromisesTest::joins,
            PromisesTest::clears, PromisesTest::day, PromisesTest::undo, PromisesTest::years, PromisesTest::keep,
            PromisesTest::again, PromisesTest::count, PromisesTest::row,
        };
        for (int i = 0; i < promises.length; i++) {
            promise = Integer.toString(i + 1);
            promises[i].run();
        }
        promise = "30 to 33, 44 (like marks by chance)";
        likeByChance();
        is("promises tested", promises.length, 53);
        System.out.println(wrong == 0 ? "PromisesTest: all answers are as due" : "PromisesTest: " + wrong + " wrong");
        if (wrong != 0) {
            System.exit(1);
        }
    }
}
