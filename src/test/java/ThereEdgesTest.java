/** The edges that promises 7 to 17 name: what there is. */
public final class ThereEdgesTest {
    /** All 8 KEYS have a VALUE, 1 .. 8. */
    private static final String WHOLE = "3,0=1,1=2,2=3,3=4,4=5,5=6,6=7,7=8";

    /** 0 .. from less 1 have 0; 40 KEYS with a VALUE from there on, 999 each. */
    private static AbsenceTree rich(int from) {
        AbsenceTree x = Edges.mapped("8");
        Edges.is("sheet of 40", x.sheet(from, 2, 40, 999, 0), 1);
        return x;
    }

    private static long[] from(int first, int count) {
        long[] numbers = new long[count];
        for (int i = 0; i < count; i++) {
            numbers[i] = first + i;
        }
        return numbers;
    }

    // ---- promise 7

    @Edges.Says("7: NODES of a LEVEL that are not BARE in a VERSION: how many; the ROW: their numbers.")
    private static void level() {
        AbsenceTree empty = Edges.mapped("3");
        empty.versions();
        for (int level = 0; level <= 3; level++) {
            Edges.is("level(0, " + level + ") of nothing", empty.level(0, level), 0);
            Edges.row(empty);
        }
        AbsenceTree whole = Edges.mapped(WHOLE);
        for (int level = 0; level <= 3; level++) {
            Edges.is("level(0, " + level + ") of all", whole.level(0, level), 8 >> level);
            Edges.row(whole, from(0, 8 >> level));
        }
        AbsenceTree x = rich(216);
        Edges.is("level(1, 0) of 40", x.level(1, 0), 40);
        Edges.row(x, from(216, 40));
        Edges.is("level(1, 4) of 40", x.level(1, 4), 3);
        Edges.row(x, 13, 14, 15);
        Edges.is("level(1, 8) of 40", x.level(1, 8), 1);
        Edges.row(x, 0);
        Edges.is("level(0, 8) of the VERSION ahead", x.level(0, 8), 0);
        Edges.row(x);
    }

    @Edges.Says("7: NONE: none such.")
    private static void levelNone() {
        for (int level : new int[] {-1, 4, 8, Edges.LEAST, Edges.GREATEST, 32, 64}) {
            Edges.refused("level(14, " + level + ")", Edges.NONE, x -> x.level(14, level));
        }
        Edges.refused("level(2, 0)", Edges.NONE, x -> x.level(2, 0));
        Edges.refused("level(15, 0)", Edges.NONE, x -> x.level(15, 0));
        Edges.refused("level(1, 9)", Edges.NONE, Edges::full, x -> x.level(1, 9));
    }

    // ---- promise 8

    @Edges.Says("8: The BARE NODES in a VERSION that are below no BARE one: how many")
    private static void holes() {
        for (int d = 3; d <= 8; d++) {
            AbsenceTree empty = Edges.mapped("" + d);
            Edges.is("holes(0) of nothing", empty.holes(0), 1);
            Edges.row(empty, d, 0, 1 << d);
            AbsenceTree one = Edges.mapped(d + ",0=1");
            Edges.is("holes(0) of the first KEY", one.holes(0), d);
            Edges.row(one, d - 1, 1, (1 << d) - 1);
            AbsenceTree last = Edges.mapped(d + "," + ((1 << d) - 1) + "=1");
            Edges.is("holes(0) of the last KEY", last.holes(0), d);
            Edges.row(last, d - 1, 0, (1 << d) - 1);
        }
        AbsenceTree x = Edges.full();
        Edges.is("holes(1) of 40", x.holes(1), 4);
        Edges.row(x, 7, 1, 216);
        Edges.is("holes(0)", x.holes(0), 1);
        Edges.row(x, 8, 0, 256);
    }

    @Edges.Says("8: the LEVEL of the greatest (of equal ones the first), its number (NONE and NONE without)")
    private static void holesOfEqualOnes() {
        AbsenceTree x = Edges.mapped("3,0=1,4=1");
        Edges.is("holes(0)", x.holes(0), 4);
        Edges.row(x, 1, 1, 6);
        AbsenceTree y = Edges.mapped("3,1=1,2=2,4=3,7=4");
        Edges.is("holes(0) of KEYS alone", y.holes(0), 4);
        Edges.row(y, 0, 0, 4);
        AbsenceTree z = Edges.mapped("3,0=1,1=1,2=1,3=1,5=1,6=1,7=1");
        Edges.is("holes(0) of one KEY", z.holes(0), 1);
        Edges.row(z, 0, 4, 1);
        AbsenceTree whole = Edges.mapped(WHOLE);
        Edges.is("holes(0) without", whole.holes(0), 0);
        Edges.row(whole, Edges.NONE, Edges.NONE, 0);
    }

    @Edges.Says("8: NONE: no such VERSION.")
    private static void holesNone() {
        Edges.refused("holes(2)", Edges.NONE, x -> x.holes(2));
        Edges.refused("holes(15)", Edges.NONE, x -> x.holes(15));
        Edges.refused("holes(-1)", Edges.NONE, AbsenceTree::new, x -> x.holes(-1));
    }

    // ---- promise 9

    private static void middleOf(String map, int key, int sum) {
        AbsenceTree x = Edges.mapped(map);
        Edges.is("middle(0) of " + map, x.middle(0), key);
        Edges.row(x, sum);
    }

    @Edges.Says("9: The least KEY up to which VALUES of a VERSION together are half of all of them, or more")
    private static void middle() {
        middleOf("3,0=5,1=5", 0, 5);
        middleOf("3,0=5,1=6", 1, 11);
        middleOf("3,0=6,1=5", 0, 6);
        middleOf("3,0=5,1=4,7=9", 1, 9);
        middleOf("3,0=5,1=4,7=10", 7, 19);
        middleOf("3,0=5,1=4,7=8", 1, 9);
        middleOf("3,2=5,5=5", 2, 5);
        middleOf("3,0=1", 0, 1);
        middleOf("3,7=1", 7, 1);
        middleOf("8,255=999", 255, 999);
        middleOf("8,0=1,255=1", 0, 1);
        middleOf("8,0=998,255=999", 255, 1997);
        AbsenceTree x = rich(216);
        Edges.is("middle(1) of 40", x.middle(1), 235);
        Edges.row(x, 20 * 999);
        x.puts(255, 998);
        Edges.is("middle(2)", x.middle(2), 235);
        x.puts(216, 1);
        Edges.is("middle(3)", x.middle(3), 236);
        Edges.row(x, 1 + 20 * 999);
    }

    @Edges.Says("9: -2: none has a VALUE; NONE: no such VERSION.")
    private static void middleOfNothing() {
        Edges.refused("middle(0)", -2, AbsenceTree::new, x -> x.middle(0));
        Edges.refused("middle(0)", -2, Edges::full, x -> x.middle(0));
        Edges.refused("middle(15)", -2, () -> {
            AbsenceTree x = Edges.worn();
            x.clears(0, 7);
            return x;
        }, x -> x.middle(15));
        Edges.refused("middle(2)", Edges.NONE, x -> x.middle(2));
        Edges.refused("middle(15)", Edges.NONE, x -> x.middle(15));
        Edges.refused("middle(1)", Edges.NONE, AbsenceTree::new, x -> x.middle(1));
    }

    // ---- promise 10

    @Edges.Says("10: VALUE of a KEY in a VERSION. NoSuchElementException: none such.")
    private static void get() {
        AbsenceTree x = Edges.mapped("8,0=1,255=999");
        Edges.is("get(0, 0)", x.get(0, 0), 1);
        Edges.is("get(0, 254)", x.get(0, 254), 0);
        Edges.is("get(0, 255)", x.get(0, 255), 999);
        int[][] none = {{14, 8}, {14, -1}, {14, Edges.LEAST}, {14, Edges.GREATEST}, {2, 0}, {15, 0}, {-1, 0}, {Edges.LEAST, 0}, {Edges.GREATEST, 0}, {15, 8}};
        for (int[] n : none) {
            Edges.refused("get(" + n[0] + ", " + n[1] + ")", Edges.THREW, y -> y.get(n[0], n[1]));
        }
        Edges.refused("get(1, 256)", Edges.THREW, Edges::full, y -> y.get(1, 256));
        Edges.is("get(3, 0) of the oldest", Edges.worn().get(3, 0), 3);
        Edges.is("get(14, 0) of the latest", Edges.worn().get(14, 0), 14);
    }

    // ---- promise 11

    @Edges.Says("11: How many KEYS have a VALUE in a VERSION; the ROW: its ROOT. NONE: no such VERSION.")
    private static void root() {
        AbsenceTree x = Edges.full();
        Edges.is("root(0)", x.root(0), 0);
        Edges.row(x, Edges.bareMark(8));
        Edges.is("root(1)", x.root(1), 40);
        int[] values = new int[256];
        for (int key = 0; key < 40; key++) {
            values[key] = key + 1;
        }
        Edges.row(x, Edges.markOf(0, values));
        AbsenceTree y = Edges.worn();
        Edges.is("root(3)", y.root(3), 5);
        Edges.row(y, Edges.markOf(0, 3, 5, 7, 0, 0, 0, 5, 9));
        Edges.is("root(14)", y.root(14), 5);
        Edges.row(y, Edges.markOf(0, 14, 5, 7, 0, 0, 0, 5, 9));
        for (int version : new int[] {2, 15, -1, Edges.LEAST, Edges.GREATEST}) {
            Edges.refused("root(" + version + ")", Edges.NONE, z -> z.root(version));
        }
    }

    // ---- promise 12

    @Edges.Says("12: MARK of a NODE in a VERSION: 1 if it is BARE, else 0; the ROW: the MARK.")
    private static void node() {
        AbsenceTree x = Edges.worn();
        Edges.is("node(3, 0, 0)", x.node(3, 0, 0), 0);
        Edges.row(x, Edges.leaf(0, 3));
        Edges.is("node(14, 0, 0)", x.node(14, 0, 0), 0);
        Edges.row(x, Edges.leaf(0, 14));
        Edges.is("node(14, 0, 7)", x.node(14, 0, 7), 0);
        Edges.row(x, Edges.leaf(7, 9));
        Edges.is("node(14, 0, 5)", x.node(14, 0, 5), 1);
        Edges.row(x, 0);
        Edges.is("node(14, 1, 2)", x.node(14, 1, 2), 1);
        Edges.row(x, Edges.bareMark(1));
        Edges.is("node(14, 3, 0)", x.node(14, 3, 0), 0);
        Edges.row(x, Edges.markOf(0, 14, 5, 7, 0, 0, 0, 5, 9));
        Edges.is("the ROOT of nothing", Edges.full().node(0, 8, 0), 1);
    }

    @Edges.Says("12: NONE: none such.")
    private static void nodeNone() {
        int[][] none = {{14, 0, 8}, {14, 0, -1}, {14, 1, 4}, {14, 2, 2}, {14, 3, 1}, {14, 3, -1}, {14, 4, 0}, {14, -1, 0}, {2, 0, 0}, {15, 0, 0},
            {14, Edges.LEAST, 0}, {14, Edges.GREATEST, 0}, {14, 0, Edges.LEAST}, {14, 0, Edges.GREATEST}, {14, 35, 0}, {14, -29, 0}};
        for (int[] n : none) {
            Edges.refused("node(" + n[0] + ", " + n[1] + ", " + n[2] + ")", Edges.NONE, x -> x.node(n[0], n[1], n[2]));
        }
    }

    // ---- promise 13

    @Edges.Says("13: NODES that are not BARE in a VERSION: how many; the ROW: of each LEVEL 0, 1, .. how many. NONE: no such VERSION.")
    private static void nodes() {
        for (int d = 3; d <= 8; d++) {
            AbsenceTree x = Edges.mapped(d + ",0=1");
            long[] ones = new long[d + 1];
            java.util.Arrays.fill(ones, 1);
            Edges.is("nodes(0) of one KEY", x.nodes(0), d + 1);
            Edges.row(x, ones);
            x.clears(0, 0);
            Edges.is("nodes(1) of nothing", x.nodes(1), 0);
            Edges.row(x, new long[d + 1]);
        }
        AbsenceTree whole = Edges.mapped(WHOLE);
        Edges.is("nodes(0) of all", whole.nodes(0), 15);
        Edges.row(whole, 8, 4, 2, 1);
        AbsenceTree y = Edges.full();
        Edges.is("nodes(1) of 40", y.nodes(1), 83);
        Edges.row(y, 40, 20, 10, 5, 3, 2, 1, 1, 1);
        for (int version : new int[] {2, 15, -1, Edges.LEAST, Edges.GREATEST}) {
            Edges.refused("nodes(" + version + ")", Edges.NONE, x -> x.nodes(version));
        }
    }

    // ---- promise 14

    @Edges.Says("14: KEYS with a VALUE in a VERSION, one behind another: KEY number k (0, 1, ..) of them; the ROW: its VALUE. NONE: none such.")
    private static void key() {
        AbsenceTree x = rich(216);
        Edges.is("key(1, 0)", x.key(1, 0), 216);
        Edges.row(x, 999);
        Edges.is("key(1, 39)", x.key(1, 39), 255);
        Edges.row(x, 999);
        AbsenceTree y = Edges.worn();
        int[] keys = {0, 1, 2, 6, 7};
        int[] values = {3, 5, 7, 5, 9};
        for (int k = 0; k < 5; k++) {
            Edges.is("key(3, " + k + ")", y.key(3, k), keys[k]);
            Edges.row(y, values[k]);
        }
        Edges.refused("key(1, 40)", Edges.NONE, Edges::full, z -> z.key(1, 40));
        Edges.refused("key(0, 0)", Edges.NONE, Edges::full, z -> z.key(0, 0));
        int[][] none = {{3, 5}, {14, 5}, {14, -1}, {14, Edges.LEAST}, {14, Edges.GREATEST}, {2, 0}, {15, 0}};
        for (int[] n : none) {
            Edges.refused("key(" + n[0] + ", " + n[1] + ")", Edges.NONE, z -> z.key(n[0], n[1]));
        }
    }

    // ---- promise 15

    @Edges.Says("15: How many KEYS below a KEY have a VALUE in a VERSION; the ROW: the greatest such KEY, the least such one above it (NONE without, each).")
    private static void near() {
        AbsenceTree x = Edges.mapped("3,1=5,2=7,6=5");
        int[] below = {0, 0, 1, 2, 2, 2, 2, 3};
        int[] left = {Edges.NONE, Edges.NONE, 1, 2, 2, 2, 2, 6};
        int[] right = {1, 2, 6, 6, 6, 6, Edges.NONE, Edges.NONE};
        for (int key = 0; key < 8; key++) {
            Edges.is("near(0, " + key + ")", x.near(0, key), below[key]);
            Edges.row(x, left[key], right[key]);
        }
        AbsenceTree y = Edges.full();
        Edges.is("near(0, 0) of nothing", y.near(0, 0), 0);
        Edges.row(y, Edges.NONE, Edges.NONE);
        Edges.is("near(0, 255) of nothing", y.near(0, 255), 0);
        Edges.row(y, Edges.NONE, Edges.NONE);
        Edges.is("near(1, 255) of 40", y.near(1, 255), 40);
        Edges.row(y, 39, Edges.NONE);
        Edges.is("near(1, 0) of 40", y.near(1, 0), 0);
        Edges.row(y, Edges.NONE, 1);
        AbsenceTree z = Edges.mapped("8,0=1,255=1");
        Edges.is("near(0, 1) of both ends", z.near(0, 1), 1);
        Edges.row(z, 0, 255);
        Edges.is("near(0, 255) of both ends", z.near(0, 255), 1);
        Edges.row(z, 0, Edges.NONE);
    }

    @Edges.Says("15: NONE: no such VERSION, KEY.")
    private static void nearNone() {
        int[][] none = {{14, 8}, {14, -1}, {14, Edges.LEAST}, {14, Edges.GREATEST}, {2, 0}, {15, 0}};
        for (int[] n : none) {
            Edges.refused("near(" + n[0] + ", " + n[1] + ")", Edges.NONE, x -> x.near(n[0], n[1]));
        }
    }

    // ---- promise 16

    @Edges.Says("16: VALUES of KEYS from one to another one in a VERSION together; the ROW: how many of them have one, the greatest VALUE (0 without).")
    private static void sum() {
        AbsenceTree x = Edges.mapped("3,1=5,2=7,6=5");
        int[] values = {0, 5, 7, 0, 0, 0, 5, 0};
        for (int from = 0; from < 8; from++) {
            int sum = 0;
            int full = 0;
            int greatest = 0;
            for (int to = from; to < 8; to++) {
                sum += values[to];
                full += values[to] > 0 ? 1 : 0;
                greatest = values[to] > greatest ? values[to] : greatest;
                Edges.is("sum(0, " + from + ", " + to + ")", x.sum(0, from, to), sum);
                Edges.row(x, full, greatest);
            }
        }
        AbsenceTree y = rich(0);
        Edges.is("sum(1, 0, 255) of 40", y.sum(1, 0, 255), 39960);
        Edges.row(y, 40, 999);
        Edges.is("sum(1, 39, 255)", y.sum(1, 39, 255), 999);
        Edges.row(y, 1, 999);
        Edges.is("sum(1, 40, 255)", y.sum(1, 40, 255), 0);
        Edges.row(y, 0, 0);
        Edges.is("sum(0, 0, 255) of nothing", y.sum(0, 0, 255), 0);
        Edges.row(y, 0, 0);
    }

    @Edges.Says("16: NONE: no such VERSION, KEYS, the second one less.")
    private static void sumNone() {
        int[][] none = {{14, 3, 2}, {14, 7, 0}, {14, 0, 8}, {14, -1, 7}, {14, 8, 8}, {14, -1, -1}, {14, 0, Edges.GREATEST}, {14, Edges.LEAST, 0},
            {14, 0, -1}, {2, 0, 7}, {15, 0, 7}, {14, 0, Edges.LEAST}};
        for (int[] n : none) {
            Edges.refused("sum(" + n[0] + ", " + n[1] + ", " + n[2] + ")", Edges.NONE, x -> x.sum(n[0], n[1], n[2]));
        }
    }

    // ---- promise 17

    @Edges.Says("17: KEYS of a VALUE (1 .. 999) in a VERSION: how many; the ROW: they.")
    private static void with() {
        AbsenceTree x = Edges.mapped("8,0=1,255=1,7=999");
        Edges.is("with(0, 1)", x.with(0, 1), 2);
        Edges.row(x, 0, 255);
        Edges.is("with(0, 999)", x.with(0, 999), 1);
        Edges.row(x, 7);
        Edges.is("with(0, 998)", x.with(0, 998), 0);
        Edges.row(x);
        AbsenceTree y = rich(216);
        Edges.is("with(1, 999) of 40", y.with(1, 999), 40);
        Edges.row(y, from(216, 40));
        Edges.is("with(0, 999) of nothing", y.with(0, 999), 0);
        Edges.row(y);
    }

    @Edges.Says("17: NONE: others.")
    private static void withNone() {
        int[][] none = {{14, 0}, {14, 1000}, {14, -1}, {14, Edges.LEAST}, {14, Edges.GREATEST}, {2, 5}, {15, 5}, {-1, 5}};
        for (int[] n : none) {
            Edges.refused("with(" + n[0] + ", " + n[1] + ")", Edges.NONE, x -> x.with(n[0], n[1]));
        }
    }

    public static void main(String[] args) throws IllegalAccessException {
        Edges.runAll(ThereEdgesTest.class);
    }
}
