/** The edges that Terms 1 and 2 name. */
public final class TermsEdgesTest {
    private interface OfNumber {
        long on(AbsenceTree x, int number);
    }

    /** A call that asks for a VERSION or a KEY, and what it answers if there is no such one. */
    private record Asking(String name, long none, OfNumber call) {
    }

    private static Asking asking(String name, OfNumber call) {
        return new Asking(name, Edges.NONE, call);
    }

    /** Each place of a call where a VERSION stands; the others of its numbers are there in worn(). */
    private static final Asking[] OF_VERSION = {
        asking("level(v, 0)", (x, v) -> x.level(v, 0)),
        asking("holes(v)", (x, v) -> x.holes(v)),
        asking("middle(v)", (x, v) -> x.middle(v)),
        new Asking("get(v, 0)", Edges.THREW, (x, v) -> x.get(v, 0)),
        asking("root(v)", (x, v) -> x.root(v)),
        asking("node(v, 0, 0)", (x, v) -> x.node(v, 0, 0)),
        asking("nodes(v)", (x, v) -> x.nodes(v)),
        asking("key(v, 0)", (x, v) -> x.key(v, 0)),
        asking("near(v, 0)", (x, v) -> x.near(v, 0)),
        asking("sum(v, 0, 7)", (x, v) -> x.sum(v, 0, 7)),
        asking("with(v, 5)", (x, v) -> x.with(v, 5)),
        asking("proof(v, 0)", (x, v) -> x.proof(v, 0)),
        asking("accepts(v)", (x, v) -> x.accepts(v)),
        asking("bare(v, 3)", (x, v) -> x.bare(v, 3)),
        asking("others(v, 1)", (x, v) -> x.others(v, 1)),
        asking("path(v, 0)", (x, v) -> x.path(v, 0)),
        asking("stretch(v, 0, 7)", (x, v) -> x.stretch(v, 0, 7)),
        asking("forks(v, 0, 7)", (x, v) -> x.forks(v, 0, 7)),
        asking("shared(v, 14)", (x, v) -> x.shared(v, 14)),
        asking("shared(14, v)", (x, v) -> x.shared(14, v)),
        asking("differ(v, 14)", (x, v) -> x.differ(v, 14)),
        asking("differ(14, v)", (x, v) -> x.differ(14, v)),
        asking("looks(v, 14)", (x, v) -> x.looks(v, 14)),
        asking("looks(14, v)", (x, v) -> x.looks(14, v)),
        asking("would(v, 0, 1)", (x, v) -> x.would(v, 0, 1)),
        asking("against(v, 14, 14)", (x, v) -> x.against(v, 14, 14)),
        asking("against(14, v, 14)", (x, v) -> x.against(14, v, 14)),
        asking("against(14, 14, v)", (x, v) -> x.against(14, 14, v)),
        asking("back(v)", (x, v) -> x.back(v)),
        asking("joins(v, 14, 14)", (x, v) -> x.joins(v, 14, 14)),
        asking("joins(14, v, 14)", (x, v) -> x.joins(14, v, 14)),
        asking("joins(14, 14, v)", (x, v) -> x.joins(14, 14, v)),
    };

    /** Each place of a call where a KEY stands; VERSION 1 of ends() has a VALUE of the first, of 1 and of the last one. */
    private static final Asking[] OF_KEY = {
        asking("sheet(k, 2, 1, 77, 0)", (x, k) -> x.sheet(k, 2, 1, 77, 0)),
        new Asking("get(1, k)", Edges.THREW, (x, k) -> x.get(1, k)),
        asking("near(1, k)", (x, k) -> x.near(1, k)),
        asking("sum(1, k, last)", (x, k) -> x.sum(1, k, x.count(1) - 1)),
        asking("sum(1, 0, k)", (x, k) -> x.sum(1, 0, k)),
        asking("proof(1, k)", (x, k) -> x.proof(1, k)),
        asking("bare(1, k)", (x, k) -> x.bare(1, k)),
        asking("others(1, k)", (x, k) -> x.others(1, k)),
        asking("path(1, k)", (x, k) -> x.path(1, k)),
        asking("stretch(1, k, last)", (x, k) -> x.stretch(1, k, x.count(1) - 1)),
        asking("stretch(1, 0, k)", (x, k) -> x.stretch(1, 0, k)),
        asking("forks(1, k, 1)", (x, k) -> x.forks(1, k, 1)),
        asking("forks(1, 1, k)", (x, k) -> x.forks(1, 1, k)),
        asking("history(k)", (x, k) -> x.history(k)),
        asking("would(1, k, 9)", (x, k) -> x.would(1, k, 9)),
        asking("since(k)", (x, k) -> x.since(k)),
        asking("puts(k, 9)", (x, k) -> x.puts(k, 9)),
        asking("moves(k, 2)", (x, k) -> x.moves(k, 2)),
        asking("moves(1, k)", (x, k) -> x.moves(1, k)),
        asking("swaps(k, 1)", (x, k) -> x.swaps(k, 1)),
        asking("swaps(1, k)", (x, k) -> x.swaps(1, k)),
        asking("clears(k, last)", (x, k) -> x.clears(k, x.count(1) - 1)),
        asking("clears(0, k)", (x, k) -> x.clears(0, k)),
    };

    private static AbsenceTree ends(int depth) {
        AbsenceTree x = Edges.mapped(depth + ",0=5,1=7," + ((1 << depth) - 1) + "=6");
        x.puts(1, 8);
        return x;
    }

    private static void answered(Asking asking, Edges.Maker maker, int number) {
        long answer = Edges.answer(maker.make(), x -> asking.call.on(x, number));
        Edges.no(asking.name + " of " + number + " tells that there is none", answer == asking.none);
    }

    private static void isNone(Asking asking, Edges.Maker maker, int number) {
        Edges.refused(asking.name + " of " + number, asking.none, maker, x -> asking.call.on(x, number));
    }

    // ---- 1

    @Edges.Says("T1: DEPTH D 3 .. 8 (4 at first)")
    private static void depth() {
        Edges.is("count(0)", new AbsenceTree().count(0), 4);
        Edges.is("count(1)", new AbsenceTree().count(1), 16);
        for (int d = 0; d <= 9; d++) {
            String text = Integer.toString(d);
            if (d >= 3 && d <= 8) {
                Edges.is("count(0) behind " + d, Edges.mapped(text).count(0), d);
            } else {
                Edges.refusedText("map()", text, -1, AbsenceTree::map);
            }
        }
    }

    @Edges.Says("T1: KEYS 0 .. 2 to the D, less 1")
    private static void keys() {
        for (int d = 3; d <= 8; d++) {
            int depth = d;
            int last = (1 << d) - 1;
            Edges.is("count(1) of " + d, Edges.mapped("" + d).count(1), last + 1);
            for (Asking asking : OF_KEY) {
                answered(asking, () -> ends(depth), 0);
                answered(asking, () -> ends(depth), last);
            }
        }
        for (int depth : new int[] {3, 8}) {
            for (Asking asking : OF_KEY) {
                isNone(asking, () -> ends(depth), -1);
                isNone(asking, () -> ends(depth), 1 << depth);
                isNone(asking, () -> ends(depth), Edges.LEAST);
                isNone(asking, () -> ends(depth), Edges.GREATEST);
            }
        }
        for (Asking asking : OF_KEY) {
            // a place of a NODE, if KEYS were not looked at
            isNone(asking, () -> ends(3), 12);
            isNone(asking, () -> ends(4), 16);
            isNone(asking, () -> ends(7), 255);
        }
    }

    @Edges.Says("T1: each with a VALUE 0 .. 999 (0: it has none; at first none has)")
    private static void values() {
        AbsenceTree x = new AbsenceTree();
        for (int key = 0; key < 16; key++) {
            Edges.is("get(0, " + key + ")", x.get(0, key), 0);
        }
        Edges.is("count(4)", x.count(4), 0);
        Edges.is("puts(0, 1)", x.puts(0, 1), 1);
        Edges.is("puts(15, 999)", x.puts(15, 999), 2);
        Edges.is("get(2, 15)", x.get(2, 15), 999);
        Edges.is("count(4)", x.count(4), 2);
        Edges.is("puts(15, 0)", x.puts(15, 0), 3);
        Edges.is("count(4)", x.count(4), 1);
        Edges.refused("puts(3, 1000)", Edges.NONE, y -> y.puts(3, 1000));
        Edges.refused("puts(3, -1)", Edges.NONE, y -> y.puts(3, -1));
    }

    @Edges.Says("T1: each with a VALUE 0 .. 999 (0: it has none) (the least VALUE, 1, is one)")
    private static void leastValue() {
        AbsenceTree x = Edges.mapped("3,0=1,7=1");
        Edges.is("count(4)", x.count(4), 2);
        Edges.is("level(0, 0)", x.level(0, 0), 2);
        Edges.is("holes(0)", x.holes(0), 4);
        Edges.row(x, 1, 1, 6);
        Edges.is("middle(0)", x.middle(0), 0);
        Edges.is("root(0)", x.root(0), 2);
        Edges.is("node(0, 0, 7)", x.node(0, 0, 7), 0);
        Edges.is("nodes(0)", x.nodes(0), 7);
        Edges.is("key(0, 1)", x.key(0, 1), 7);
        Edges.is("near(0, 7)", x.near(0, 7), 1);
        Edges.row(x, 0, Edges.NONE);
        Edges.is("near(0, 3)", x.near(0, 3), 1);
        Edges.row(x, 0, 7);
        Edges.is("sum(0, 0, 7)", x.sum(0, 0, 7), 2);
        Edges.row(x, 2, 1);
        Edges.is("with(0, 1)", x.with(0, 1), 2);
        Edges.is("proof(0, 0)", x.proof(0, 0), 1);
        Edges.is("bare(0, 7)", x.bare(0, 7), -2);
        Edges.is("others(0, 7)", x.others(0, 7), 1);
        Edges.is("path(0, 7)", x.path(0, 7), 0);
        Edges.is("forks(0, 0, 7)", x.forks(0, 0, 7), 3);
        Edges.row(x, 2, 0);
        Edges.is("would(0, 7, 0)", x.would(0, 7, 0), 1);
        Edges.is("moves(0, 7)", x.moves(0, 7), -3);
        Edges.is("moves(7, 6)", x.moves(7, 6), 1);
        Edges.is("clears(6, 6)", x.clears(6, 6), 2);
    }

    @Edges.Says("T1: at most 40 with one")
    private static void atMost40() {
        Edges.is("count(4)", Edges.full().count(4), 40);
        Edges.refused("puts(40, 1)", -5, Edges::full, x -> x.puts(40, 1));
        Edges.refused("sheet(40, 2, 1, 1, 0)", -5, Edges::full, x -> x.sheet(40, 2, 1, 1, 0));
        Edges.refusedText("batch()", "40=1", -300, Edges::full, AbsenceTree::batch);
        AbsenceTree x = Edges.full();
        Edges.is("puts(39, 0)", x.puts(39, 0), 2);
        Edges.is("puts(255, 1)", x.puts(255, 1), 3);
        Edges.is("puts(254, 1)", x.puts(254, 1), -5);
        Edges.is("moves(255, 254)", x.moves(255, 254), 4);
        Edges.is("swaps(254, 253)", x.swaps(254, 253), 5);
        Edges.is("flips(255)", x.flips(255), 6);
        Edges.is("back(5)", x.back(5), 7);
        Edges.is("count(4)", x.count(4), 40);
    }

    @Edges.Says("T1: x is (31 a and b and 17) times -1640531535 (as ints that go round)")
    private static void goesRound() {
        AbsenceTree x = Edges.mapped("8,255=999,254=1,0=1");
        Edges.is("node(0, 0, 255)", x.node(0, 0, 255), 0);
        Edges.row(x, Edges.h(256, 999));
        Edges.is("node(0, 0, 0)", x.node(0, 0, 0), 0);
        Edges.row(x, Edges.h(1, 1));
        Edges.is("node(0, 1, 127)", x.node(0, 1, 127), 0);
        Edges.row(x, Edges.h(Edges.h(255, 1), Edges.h(256, 999)));
        // numbers that the document's own definition gives, worked out apart
        AbsenceTree y = Edges.mapped("3,0=1");
        y.root(0);
        Edges.row(y, -2056625572);
        y.node(0, 1, 0);
        Edges.row(y, 1526793111);
    }

    @Edges.Says("T1: H is x exclusive or x shifted right by 15 places (without sign)")
    private static void shiftedWithoutSign() {
        // the eight KEYS have an x below 0 as well as one above
        int below = 0;
        for (int key = 0; key < 8; key++) {
            below += (32 * (key + 1) + 17) * -1640531535 < 0 ? 1 : 0;
        }
        Edges.yes("some x are below 0, others not", below > 0 && below < 8);
        AbsenceTree x = Edges.mapped("4");
        for (int level = 0; level <= 4; level++) {
            x.node(0, level, 0);
            Edges.row(x, Edges.bareMark(level));
        }
        Edges.is("MARK of LEVEL 4", Edges.bareMark(4), -1102439721);
        AbsenceTree y = Edges.mapped("3,0=1,1=2,2=3,3=4,4=5,5=6,6=7,7=8");
        for (int key = 0; key < 8; key++) {
            y.node(0, 0, key);
            Edges.row(y, Edges.h(key + 1, key + 1));
        }
    }

    @Edges.Says("T1: NODES: of LEVEL l 0 .. D, number i 0 .. 2 to the D less l, less 1")
    private static void nodesThatThereAre() {
        for (int d = 3; d <= 8; d++) {
            int depth = d;
            for (int l = 0; l <= d; l++) {
                int level = l;
                int nodes = 1 << (d - l);
                Edges.yes("node of LEVEL " + l + " of " + d, ends(depth).node(1, level, 0) >= 0);
                Edges.yes("the last node of LEVEL " + l + " of " + d, ends(depth).node(1, level, nodes - 1) >= 0);
                Edges.refused("node(1, " + l + ", " + nodes + ")", Edges.NONE, () -> ends(depth), x -> x.node(1, level, nodes));
                Edges.refused("node(1, " + l + ", -1)", Edges.NONE, () -> ends(depth), x -> x.node(1, level, -1));
                Edges.yes("level(1, " + l + ")", ends(depth).level(1, level) >= 1);
            }
            for (int level : new int[] {-1, d + 1, Edges.LEAST, Edges.GREATEST}) {
                Edges.refused("node(1, " + level + ", 0)", Edges.NONE, () -> ends(depth), x -> x.node(1, level, 0));
                Edges.refused("level(1, " + level + ")", Edges.NONE, () -> ends(depth), x -> x.level(1, level));
            }
        }
    }

    @Edges.Says("T1: over KEYS from i times 2 to the l on, 2 to the l of them")
    private static void keysOfANode() {
        // a VALUE of the KEY ahead, of the first, of the last and of the KEY behind NODE 1 of LEVEL 2
        int[] keys = {3, 4, 7, 8};
        int[] bare = {1, 0, 0, 1};
        for (int i = 0; i < keys.length; i++) {
            AbsenceTree x = Edges.mapped("4," + keys[i] + "=1");
            Edges.is("node(0, 2, 1) of a VALUE of " + keys[i], x.node(0, 2, 1), bare[i]);
        }
    }

    @Edges.Says("T1: of LEVEL 0: H of its KEY and 1, and its VALUE; 0, if it has none")
    private static void markOfAKey() {
        AbsenceTree x = Edges.mapped("3,0=1,7=999");
        Edges.is("node(0, 0, 0)", x.node(0, 0, 0), 0);
        Edges.row(x, Edges.h(1, 1));
        Edges.is("node(0, 0, 7)", x.node(0, 0, 7), 0);
        Edges.row(x, Edges.h(8, 999));
        Edges.is("node(0, 0, 6)", x.node(0, 0, 6), 1);
        Edges.row(x, 0);
        x.puts(0, 0);
        Edges.is("node(1, 0, 0)", x.node(1, 0, 0), 1);
        Edges.row(x, 0);
    }

    @Edges.Says("T1: of LEVEL l: H of MARKS of its two NODES below, the lesser number first")
    private static void markAbove() {
        AbsenceTree x = Edges.mapped("3,6=3,7=4");
        Edges.is("node(0, 1, 3)", x.node(0, 1, 3), 0);
        Edges.row(x, Edges.h(Edges.leaf(6, 3), Edges.leaf(7, 4)));
        Edges.is("node(0, 2, 1)", x.node(0, 2, 1), 0);
        Edges.row(x, Edges.h(Edges.bareMark(1), Edges.h(Edges.leaf(6, 3), Edges.leaf(7, 4))));
    }

    @Edges.Says("T1: BARE: none of its KEYS has a VALUE. (MARKS of BARE ones of a LEVEL are all alike.)")
    private static void bare() {
        AbsenceTree x = Edges.mapped("8,0=1");
        for (int level = 0; level < 8; level++) {
            Edges.is("node(0, " + level + ", 1)", x.node(0, level, 1), 1);
            Edges.row(x, Edges.bareMark(level));
            Edges.is("the last of LEVEL " + level, x.node(0, level, (1 << (8 - level)) - 1), 1);
            Edges.row(x, Edges.bareMark(level));
            Edges.is("node(0, " + level + ", 0)", x.node(0, level, 0), 0);
        }
    }

    @Edges.Says("T1: BARE: none of its KEYS has a VALUE. (and not: its MARK is that of a BARE one)")
    private static void notBareByItsMark() {
        // by chance, MARK of KEYS 0 .. 3 with these VALUES is that of a BARE NODE of LEVEL 2
        AbsenceTree x = Edges.mapped("3,1=222,2=45,3=50");
        Edges.is("node(0, 2, 0)", x.node(0, 2, 0), 0);
        Edges.row(x, Edges.bareMark(2));
        Edges.is("node(0, 2, 1)", x.node(0, 2, 1), 1);
        Edges.row(x, Edges.bareMark(2));
        Edges.is("root(0)", x.root(0), 3);
        Edges.row(x, Edges.bareMark(3));
        Edges.is("nodes(0)", x.nodes(0), 7);
        Edges.row(x, 3, 2, 1, 1);
        Edges.is("level(0, 2)", x.level(0, 2), 1);
        Edges.is("holes(0)", x.holes(0), 2);
        Edges.row(x, 2, 1, 5);
        Edges.is("proof(0, 7)", x.proof(0, 7), 1);
        Edges.row(x, 0, 4, Edges.bareMark(2));
        Edges.is("bare(0, 7)", x.bare(0, 7), 2);
        Edges.row(x, 4, 4, 1);
        Edges.is("path(0, 0)", x.path(0, 0), 1);
        Edges.is("clears(0, 7)", x.clears(0, 7), 1);
        Edges.is("differ(0, 1)", x.differ(0, 1), 3);
        Edges.is("shared(0, 1)", x.shared(0, 1), 0);
        Edges.row(x, 7, 0);
        Edges.is("looks(0, 1)", x.looks(0, 1), 9);
        Edges.is("all()", x.all(), 7);
        Edges.is("would(1, 1, 222)", x.would(1, 1, 222), 1);
        Edges.is("back(0)", x.back(0), 2);
        Edges.is("would(2, 7, 0)", x.would(2, 7, 0), 3);
        Edges.row(x, Edges.bareMark(3), 0);
    }

    @Edges.Says("T1: ROOT: MARK of LEVEL D")
    private static void rootOfEachDepth() {
        for (int d = 3; d <= 8; d++) {
            AbsenceTree x = ends(d);
            int[] values = new int[1 << d];
            values[0] = 5;
            values[1] = 7;
            values[values.length - 1] = 6;
            Edges.is("root(0)", x.root(0), 3);
            Edges.row(x, Edges.markOf(0, values));
            values[1] = 8;
            Edges.is("root(1)", x.root(1), 3);
            Edges.row(x, Edges.markOf(0, values));
            Edges.is("node(1, D, 0)", x.node(1, d, 0), 0);
            Edges.row(x, Edges.markOf(0, values));
        }
    }

    @Edges.Says("T1: VERSIONS: 0 at first, and anew behind map()")
    private static void versionAtFirst() {
        AbsenceTree x = new AbsenceTree();
        Edges.is("count(2)", x.count(2), 0);
        for (int i = 1; i <= 14; i++) {
            x.puts(0, i);
        }
        Edges.is("count(2)", x.count(2), 14);
        Edges.write(x, "4").map();
        Edges.is("versions()", x.versions(), 1);
        Edges.row(x, 0, 0);
        Edges.is("puts(0, 1)", x.puts(0, 1), 1);
    }

    @Edges.Says("T1: each change that is done makes the next one, the latest one")
    private static void eachChange() {
        AbsenceTree x = Edges.mapped(Edges.SMALL);
        Edges.is("puts()", x.puts(0, 1), 1);
        Edges.is("moves()", x.moves(0, 7), 2);
        Edges.is("flips()", x.flips(1), 3);
        Edges.is("swaps()", x.swaps(0, 1), 4);
        Edges.is("back()", x.back(0), 5);
        Edges.is("joins()", x.joins(1, 0, 0), 6);
        Edges.is("clears()", x.clears(0, 7), 7);
        Edges.is("sheet()", x.sheet(0, 2, 8, 1, 1), 8);
        Edges.is("batch()", Edges.write(x, "0=0,1=0").batch(), 9);
        Edges.is("day()", Edges.write(x, "p000001p000002").day(), 2);
        Edges.is("count(2)", x.count(2), 11);
        Edges.is("puts() that changes nothing", x.puts(0, 2), -2);
        Edges.is("count(2)", x.count(2), 11);
    }

    @Edges.Says("T1: VALUES of the 12 latest ones are KEPT")
    private static void twelveAreKept() {
        AbsenceTree x = Edges.mapped(Edges.SMALL);
        for (int i = 1; i <= 11; i++) {
            x.puts(0, i);
        }
        Edges.is("get(0, 0) of 0 .. 11", x.get(0, 0), 0);
        Edges.is("puts(0, 12)", x.puts(0, 12), 12);
        Edges.is("get(0, 0) of 1 .. 12", Edges.answer(x, y -> y.get(0, 0)), Edges.THREW);
        for (int version = 1; version <= 12; version++) {
            Edges.is("get(" + version + ", 0)", x.get(version, 0), version);
            Edges.is("get(" + version + ", 6)", x.get(version, 6), 5);
        }
    }

    @Edges.Says("T2: No such VERSION: one that is not KEPT.")
    private static void oldestThatIsKept() {
        for (Asking asking : OF_VERSION) {
            answered(asking, Edges::worn, 3);
            answered(asking, Edges::worn, 14);
            for (int version : new int[] {2, 15, 0, -1, Edges.LEAST, Edges.GREATEST}) {
                isNone(asking, Edges::worn, version);
            }
        }
        Edges.Maker few = () -> {
            AbsenceTree x = Edges.worn();
            x.undo();
            x.undo();
            return x;
        };
        for (Asking asking : OF_VERSION) {
            if (asking.name.indexOf("14") < 0) {
                answered(asking, few, 3);
                answered(asking, few, 12);
                isNone(asking, few, 13);
                isNone(asking, few, 14);
                isNone(asking, few, 2);
            }
        }
    }

    @Edges.Says("T1: SIBLING of a KEY at LEVEL l (0 .. D less 1)")
    private static void siblingLevels() {
        AbsenceTree x = Edges.mapped("8,0=1,1=2,255=3");
        Edges.is("proof(0, 0)", x.proof(0, 0), 2);
        int[] high = new int[128];
        high[127] = 3;
        Edges.row(x, 1, 1 | 128, Edges.leaf(1, 2), Edges.markOf(128, high));
        AbsenceTree y = Edges.mapped("3,0=1,1=2,7=3");
        Edges.is("proof(0, 0)", y.proof(0, 0), 2);
        Edges.row(y, 1, 1 | 4, Edges.leaf(1, 2), Edges.markOf(4, 0, 0, 0, 3));
    }

    @Edges.Says("T1: KEY, VALUE, BITS (LEVEL l is bit l: its SIBLING is not BARE), MARKS of these SIBLINGS, LEVELS rising")
    private static void proofOfAllLevels() {
        AbsenceTree x = Edges.mapped("8,1=1,2=1,4=1,8=1,16=1,32=1,64=1,128=1");
        Edges.is("proof(0, 0)", x.proof(0, 0), 8);
        long[] due = new long[10];
        due[1] = 255;
        for (int level = 0; level < 8; level++) {
            int[] values = new int[1 << level];
            values[0] = 1;
            due[level + 2] = Edges.markOf(1 << level, values);
        }
        Edges.row(x, due);
        Edges.is("accepts(0)", x.accepts(0), 1);
        Edges.is("proof of nothing", Edges.mapped("8").proof(0, 0), 0);
    }

    @Edges.Says("T1: IN HAND is at most one PROOF (at first none), as it was got, or altered")
    private static void inHand() {
        AbsenceTree x = new AbsenceTree();
        Edges.is("count(6)", x.count(6), 0);
        Edges.is("hand()", x.hand(), -2);
        x.puts(1, 5);
        x.puts(2, 7);
        x.proof(2, 1);
        x.proof(2, 2);
        Edges.is("hand()", x.hand(), 1);
        Edges.row(x, 2, 7, 2, Edges.markOf(0, 0, 5));
        x.alters(1, 8);
        Edges.is("hand()", x.hand(), 1);
        Edges.row(x, 2, 8, 2, Edges.markOf(0, 0, 5));
        x.puts(2, 9);
        Edges.is("hand() behind a change", x.hand(), 1);
        Edges.row(x, 2, 8, 2, Edges.markOf(0, 0, 5));
    }

    @Edges.Says("T1: left or right as the KEY tells")
    private static void leftOrRight() {
        AbsenceTree x = Edges.mapped("3,0=1,7=2");
        int root = Edges.markOf(0, 1, 0, 0, 0, 0, 0, 0, 2);
        for (int key = 0; key < 8; key++) {
            x.proof(0, key);
            Edges.is("accepts(0) of " + key, x.accepts(0), 1);
            Edges.row(x, root);
        }
        x.proof(0, 7);
        for (int key = 0; key < 7; key++) {
            x.alters(0, key);
            Edges.is("accepts(0) of 7 for " + key, x.accepts(0), 0);
        }
    }

    @Edges.Says("T1: No more BITS than LEVELS count")
    private static void bitsBehindTheLevels() {
        for (int d = 3; d <= 7; d++) {
            AbsenceTree x = ends(d);
            x.proof(1, 0);
            int marks = x.hand();
            int bits = (int) x.row(2);
            for (int bit = 0; bit < 8; bit++) {
                x.alters(2, bits ^ 1 << bit);
                Edges.is("accepts(1) with bit " + bit + " of DEPTH " + d, x.accepts(1), bit >= d ? 1 : 0);
            }
            x.alters(2, bits | 256 - (1 << d));
            Edges.is("accepts(1) with all of them", x.accepts(1), 1);
            Edges.is("hand()", x.hand(), marks);
        }
    }

    @Edges.Says("T1: MARKS that there are not are 0")
    private static void marksThatThereAreNot() {
        AbsenceTree x = Edges.mapped("3,6=5");
        Edges.is("proof(0, 6)", x.proof(0, 6), 0);
        x.alters(2, 1);
        // of LEVEL 0 MARK of a BARE one is 0 too
        Edges.is("accepts(0)", x.accepts(0), 1);
        Edges.row(x, Edges.markOf(0, 0, 0, 0, 0, 0, 0, 5, 0));
        x.alters(2, 2);
        Edges.is("accepts(0)", x.accepts(0), 0);
        Edges.row(x, Edges.h(Edges.bareMark(2), Edges.h(0, Edges.h(Edges.leaf(6, 5), 0))));
        x.alters(2, 7);
        Edges.is("accepts(0)", x.accepts(0), 0);
        Edges.row(x, Edges.h(0, Edges.h(0, Edges.h(Edges.leaf(6, 5), 0))));
        // MARKS that were IN HAND ahead are not there either
        Edges.write(x, "0=1:7:11:12:13").told();
        Edges.write(x, "0=1:7:11").told();
        Edges.is("accepts(0)", x.accepts(0), 0);
        Edges.row(x, Edges.h(Edges.h(Edges.h(Edges.leaf(0, 1), 11), 0), 0));
    }

    @Edges.Says("T1: NODES that are SIBLINGS of one of them at a LEVEL, not BARE, and over none of them")
    private static void need() {
        AbsenceTree x = Edges.mapped("3,0=1,1=2,2=3,4=5");
        Edges.is("NEED of 0", Edges.write(x, "0").together(0), 3);
        Edges.is("NEED of 0, 1", Edges.write(x, "0,1").together(0), 2);
        Edges.is("NEED of 0, 2", Edges.write(x, "0,2").together(0), 2);
        Edges.is("NEED of 0, 1, 2", Edges.write(x, "0,1,2").together(0), 1);
        Edges.is("NEED of 7", Edges.write(x, "7").together(0), 2);
        Edges.is("NEED of all", Edges.write(x, "0,1,2,3,4,5,6,7").together(0), 0);
    }

    @Edges.Says("T1: how many unlike NODES of LEVEL 1 and above are over some of them, and how many KEYS it has")
    private static void work() {
        for (int d = 3; d <= 8; d++) {
            AbsenceTree x = Edges.mapped("" + d);
            Edges.write(x, "0").together(0);
            Edges.row(x, 0, d + 1);
            Edges.write(x, "0,1").together(0);
            Edges.row(x, 0, d + 2);
            Edges.write(x, "0," + ((1 << d) - 1)).together(0);
            Edges.row(x, 0, 2 * d - 1 + 2);
        }
        AbsenceTree y = Edges.mapped("3");
        Edges.write(y, "0,1,2,3,4,5,6,7").together(0);
        Edges.row(y, 0, 7 + 8);
    }

    // ---- 2

    @Edges.Says("T2: ROW: numbers told last by a call that says so")
    private static void rowStaysWithCallsThatDoNotTell() {
        Edges.Call[] quiet = {
            x -> x.sign(0), x -> Edges.bit(x.end(1)), AbsenceTree::map, x -> x.sheet(0, 2, 2, 900, 1), x -> x.get(14, 0),
            x -> Edges.bit(x.alters(1, 7)), x -> Edges.write(x, "1=2:3:4").told(), x -> x.looks(3, 14), x -> x.puts(0, 1),
            x -> x.moves(0, 3), x -> x.flips(1), x -> x.swaps(0, 1), x -> x.back(3), x -> x.joins(3, 3, 4), x -> x.clears(0, 0),
            AbsenceTree::undo, x -> Edges.bit(x.keep(0)), x -> Edges.bit(x.again(0)), x -> x.count(7), x -> x.row(0),
        };
        for (int i = 0; i < quiet.length; i++) {
            AbsenceTree x = Edges.worn();
            Edges.yes("quiet call " + i + " is not refused", quiet[i].on(x) >= 0);
            // that of holes(14): of 0, 1, 2, 6 and 7, one NODE of LEVEL 1 and one KEY are free
            Edges.row(x, 1, 2, 3);
        }
    }

    @Edges.Says("T2: Questions change nothing but, where it is said, what is IN HAND.")
    private static void questionsChangeNothing() {
        Edges.Call[] questions = {
            x -> x.level(14, 0), x -> x.holes(3), x -> x.middle(14), x -> x.get(3, 1), x -> x.root(3), x -> x.node(3, 1, 1),
            x -> x.nodes(14), x -> x.key(14, 0), x -> x.near(14, 3), x -> x.sum(14, 0, 7), x -> x.with(14, 5), AbsenceTree::hand,
            x -> x.accepts(14), AbsenceTree::accepted, x -> x.bare(14, 3), x -> x.others(14, 1), x -> x.path(14, 0),
            x -> x.stretch(14, 1, 6), x -> x.forks(14, 1, 6), x -> x.shared(3, 14), x -> x.differ(3, 14), x -> x.looks(3, 14),
            AbsenceTree::all, x -> x.history(0), AbsenceTree::hot, x -> x.would(14, 3, 9), x -> x.against(3, 14, 5),
            AbsenceTree::versions, x -> x.since(0), x -> x.count(0), x -> x.row(0), x -> x.years(1, 60),
        };
        for (int i = 0; i < questions.length; i++) {
            AbsenceTree x = Edges.worn();
            Edges.yes("question " + i + " is answered", Edges.answer(x, questions[i]) >= 0);
            Edges.alike("question " + i, x, Edges.worn(), false, true);
        }
        AbsenceTree y = Edges.write(Edges.worn(), "0,3");
        Edges.yes("together() is answered", y.together(14) >= 0);
        Edges.alike("together()", y, Edges.worn(), false, false);
        // proof() changes what is IN HAND, and this alone
        AbsenceTree z = Edges.worn();
        z.proof(14, 2);
        z.alters(1, 8);
        Edges.alike("proof()", z, Edges.worn(), false, true);
    }

    @Edges.Says("T2: NONE comes ahead of other answers below 0")
    private static void noneComesFirst() {
        Edges.refused("middle of no VERSION and no VALUES", Edges.NONE, AbsenceTree::new, x -> x.middle(1));
        Edges.refused("accepts of no VERSION and nothing IN HAND", Edges.NONE, AbsenceTree::new, x -> x.accepts(1));
        Edges.refused("bare of no VERSION and a KEY with a VALUE", Edges.NONE, x -> x.bare(2, 0));
        Edges.refused("puts of no VALUE where 40 have one", Edges.NONE, Edges::full, x -> x.puts(40, 1000));
        Edges.refused("puts of no KEY where 40 have one", Edges.NONE, Edges::full, x -> x.puts(256, 1));
        Edges.refused("moves of one without VALUE to itself", Edges.NONE, x -> x.moves(3, 3));
        Edges.refused("moves of one without VALUE to none", Edges.NONE, x -> x.moves(3, 8));
        Edges.refused("moves of one with a VALUE to itself", Edges.NONE, x -> x.moves(1, 1));
        Edges.refused("swaps of one with itself", Edges.NONE, x -> x.swaps(1, 1));
        Edges.refused("flips of nothing with no mask", Edges.NONE, AbsenceTree::new, x -> x.flips(16));
        Edges.refused("back to no VERSION", Edges.NONE, AbsenceTree::new, x -> x.back(1));
        Edges.refused("joins of no VERSION and unlike ones", Edges.NONE, x -> x.joins(4, 14, 2));
        Edges.refused("clears of nothing and no KEYS", Edges.NONE, AbsenceTree::new, x -> x.clears(0, 16));
        Edges.refused("sheet of no KEY, missing", Edges.NONE, x -> x.sheet(8, 3, -1, 0, 0));
        Edges.refused("sheet of another kind, below 0", Edges.NONE, x -> x.sheet(0, 4, -1, 0, 0));
        Edges.refused("sheet of 41, missing", Edges.NONE, x -> x.sheet(0, 3, 41, 0, 0));
        Edges.refused("sheet of 41, no such KEYS", Edges.NONE, x -> x.sheet(7, 2, 41, 0, 0));
    }

    @Edges.Says("An object is used for at most 512 calls after it has been made")
    private static void call512() {
        AbsenceTree x = new AbsenceTree();
        for (int i = 1; i <= 510; i++) {
            Edges.is("puts", x.puts(i % 16, i), i);
        }
        Edges.is("call 511", x.versions(), 12);
        Edges.is("call 512", x.row(0), 499);
        AbsenceTree y = new AbsenceTree();
        for (int i = 1; i <= 511; i++) {
            y.puts(i % 2, i);
        }
        Edges.is("call 512", y.get(500, 0), 500);
    }

    @Edges.Says("public static final int NONE = -1")
    private static void none() {
        Edges.is("NONE", AbsenceTree.NONE, -1);
    }

    public static void main(String[] args) throws IllegalAccessException {
        Edges.runAll(TermsEdgesTest.class);
    }
}
