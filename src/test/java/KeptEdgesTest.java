/** The edges that promises 50 to 53 name: kept. */
public final class KeptEdgesTest {
    private static AbsenceTree nothing() {
        return Edges.write(new AbsenceTree(), "4,9=3");
    }

    private static void versions(AbsenceTree x, int first, int latest) {
        Edges.is("versions()", x.versions(), latest - first + 1);
        Edges.row(x, first, latest);
    }

    // ---- promise 50

    @Edges.Says("50: DEPTH, and all VERSIONS that are KEPT are kept under a number 0 .. 1: true.")
    private static void keep() {
        AbsenceTree x = Edges.worn();
        Edges.yes("keep(0)", x.keep(0));
        Edges.yes("keep(1)", x.keep(1));
        Edges.row(x, 1, 2, 3);
        for (int i = 0; i < 14; i++) {
            x.puts(5, i + 1);
        }
        Edges.write(x, "8,255=1").map();
        Edges.yes("keep(1) anew", x.keep(1));
        Edges.yes("again(0)", x.again(0));
        Edges.is("count(0)", x.count(0), 3);
        versions(x, 3, 14);
        for (int version = 3; version <= 14; version++) {
            Edges.is("get(" + version + ", 0)", x.get(version, 0), version);
            Edges.is("get(" + version + ", 5)", x.get(version, 5), 0);
        }
        Edges.is("get(2, 0)", Edges.answer(x, y -> y.get(2, 0)), Edges.THREW);
        Edges.yes("again(1)", x.again(1));
        Edges.is("count(0)", x.count(0), 8);
        versions(x, 0, 0);
        Edges.is("get(0, 255)", x.get(0, 255), 1);
        Edges.is("get(1, 0)", Edges.answer(x, y -> y.get(1, 0)), Edges.THREW);
    }

    @Edges.Says("50: Refused: others.")
    private static void keepRefused() {
        for (int i : new int[] {-1, 2, 3, Edges.LEAST, Edges.GREATEST}) {
            Edges.refused("keep(" + i + ")", 0, x -> Edges.bit(x.keep(i)));
            Edges.refused("keep(" + i + ")", 0, KeptEdgesTest::nothing, x -> Edges.bit(x.keep(i)));
        }
    }

    @Edges.Says("50: kept under a number (what is kept is as it was: later changes, and undo(), leave it)")
    private static void keptStays() {
        AbsenceTree x = Edges.mapped("3,0=1");
        x.puts(0, 2);
        x.keep(0);
        x.undo();
        x.puts(0, 3);
        x.puts(0, 4);
        x.again(0);
        versions(x, 0, 1);
        Edges.is("get(0, 0)", x.get(0, 0), 1);
        Edges.is("get(1, 0)", x.get(1, 0), 2);
        x.puts(0, 5);
        x.undo();
        x.undo();
        x.puts(0, 6);
        Edges.is("get(1, 0)", x.get(1, 0), 6);
        Edges.yes("again(0)", x.again(0));
        versions(x, 0, 1);
        Edges.is("get(1, 0)", x.get(1, 0), 2);
        Edges.no("again(1)", x.again(1));
    }

    // ---- promise 51

    @Edges.Says("51: They are as they were kept under a number (IN HAND is nothing then).")
    private static void again() {
        AbsenceTree x = Edges.worn();
        Edges.is("count(6)", x.count(6), 1);
        Edges.yes("again(0)", x.again(0));
        Edges.is("count(6)", x.count(6), 0);
        Edges.row(x, 1, 2, 3);
        Edges.is("count(8)", x.count(8), 5);
        versions(x, 0, 1);
        Edges.is("get(0, 7)", x.get(0, 7), 0);
        Edges.is("get(1, 7)", x.get(1, 7), 9);
        Edges.is("hand()", x.hand(), -2);
        Edges.is("puts(0, 1)", x.puts(0, 1), 2);
        AbsenceTree y = Edges.worn();
        y.keep(0);
        Edges.yes("again(0) of all that is as it is", y.again(0));
        Edges.is("count(6)", y.count(6), 0);
        versions(y, 3, 14);
    }

    @Edges.Says("51: Refused: nothing kept.")
    private static void againRefused() {
        Edges.refused("again(0)", 0, KeptEdgesTest::nothing, x -> Edges.bit(x.again(0)));
        Edges.refused("again(1)", 0, KeptEdgesTest::nothing, x -> Edges.bit(x.again(1)));
        for (int i : new int[] {1, 2, -1, Edges.LEAST, Edges.GREATEST}) {
            Edges.refused("again(" + i + ")", 0, x -> Edges.bit(x.again(i)));
        }
        AbsenceTree x = new AbsenceTree();
        x.keep(1);
        Edges.no("again(0) of what is kept under 1", x.again(0));
        Edges.yes("again(1)", x.again(1));
    }

    // ---- promise 52

    @Edges.Says("52: What 0: D, 1: KEYS, 2: the VERSION, 3: VERSIONS that are KEPT, 4: KEYS with a VALUE, 5: VALUES of all together, 6: 1 if something is IN HAND, else 0, 7: numbers of the ROW, 8: signs of THE TEXT.")
    private static void count() {
        counts(new AbsenceTree(), 4, 16, 0, 1, 0, 0, 0, 0, 0);
        counts(Edges.worn(), 3, 8, 14, 12, 5, 14 + 5 + 7 + 5 + 9, 1, 3, 5);
        AbsenceTree x = Edges.mapped("8");
        x.sheet(0, 2, 40, 999, 0);
        x.level(1, 0);
        for (int i = 0; i < 20; i++) {
            x.sign(0);
        }
        counts(x, 8, 256, 1, 2, 40, 39960, 0, 40, 80);
        x.level(0, 0);
        x.end(79);
        x.undo();
        counts(x, 8, 256, 0, 1, 0, 0, 0, 0, 79);
        x.proof(0, 0);
        counts(x, 8, 256, 0, 1, 0, 0, 1, 2, 79);
    }

    private static void counts(AbsenceTree x, int... due) {
        for (int what = 0; what < due.length; what++) {
            Edges.is("count(" + what + ")", x.count(what), due[what]);
        }
    }

    @Edges.Says("52: NONE for another what.")
    private static void countNone() {
        for (int what : new int[] {-1, 9, 10, Edges.LEAST, Edges.GREATEST}) {
            Edges.refused("count(" + what + ")", Edges.NONE, x -> x.count(what));
        }
    }

    // ---- promise 53

    @Edges.Says("53: Number i of the ROW. NoSuchElementException: none such.")
    private static void row() {
        for (int i : new int[] {-1, 0, 1, Edges.LEAST, Edges.GREATEST}) {
            Edges.refused("row(" + i + ") of an empty ROW", Edges.THREW, KeptEdgesTest::nothing, x -> x.row(i));
        }
        for (int i : new int[] {-1, 3, 4, 127, 128, Edges.LEAST, Edges.GREATEST}) {
            Edges.refused("row(" + i + ") of three", Edges.THREW, x -> x.row(i));
        }
        AbsenceTree x = Edges.worn();
        Edges.is("row(0)", x.row(0), 1);
        Edges.is("row(1)", x.row(1), 2);
        Edges.is("row(2)", x.row(2), 3);
        x.versions();
        Edges.is("row(2) of two", Edges.answer(x, y -> y.row(2)), Edges.THREW);
        x.with(14, 999);
        Edges.is("row(0) of none", Edges.answer(x, y -> y.row(0)), Edges.THREW);
        // a MARK below 0 is told as that int
        AbsenceTree z = new AbsenceTree();
        z.root(0);
        Edges.is("row(0)", z.row(0), -1102439721L);
    }

    @Edges.Says("53: Number i of the ROW (of the longest one)")
    private static void rowOf80() {
        AbsenceTree x = Edges.full();
        x.clears(0, 255);
        x.sheet(216, 2, 40, 1, 0);
        Edges.is("differ(1, 3)", x.differ(1, 3), 80);
        Edges.is("row(0)", x.row(0), 0);
        Edges.is("row(39)", x.row(39), 39);
        Edges.is("row(40)", x.row(40), 216);
        Edges.is("row(79)", x.row(79), 255);
        Edges.is("row(80)", Edges.answer(x, y -> y.row(80)), Edges.THREW);
    }

    public static void main(String[] args) throws IllegalAccessException {
        Edges.runAll(KeptEdgesTest.class);
    }
}
