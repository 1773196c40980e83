/** The edges that promises 30 to 39 name: versions. */
public final class VersionsEdgesTest {
    private static final int[][] NO_VERSIONS = {{2, 14}, {14, 2}, {15, 14}, {14, 15}, {2, 15}, {-1, 14}, {14, -1}, {Edges.LEAST, 14},
        {14, Edges.GREATEST}, {2, 2}};

    private static final int[] NO_KEYS = {-1, 8, Edges.LEAST, Edges.GREATEST};

    private static long[] from(int first, int count) {
        long[] numbers = new long[count];
        for (int i = 0; i < count; i++) {
            numbers[i] = first + i;
        }
        return numbers;
    }

    /** Of 256 KEYS, in VERSION 1 KEYS 0 .. 39 have 1 .. 40, in VERSION 2 none has, in VERSION 3 KEYS 40 .. 79 have 1 .. 40. */
    private static AbsenceTree twoOf40() {
        AbsenceTree x = Edges.full();
        x.clears(0, 255);
        Edges.is("sheet of 40", x.sheet(40, 2, 40, 1, 1), 3);
        return x;
    }

    // ---- promise 30

    @Edges.Says("30: NODES that are not BARE in either VERSION, of one LEVEL and number, of which all VALUES are alike in both: how many; the ROW: those of the first one alone, of the second one alone.")
    private static void shared() {
        AbsenceTree x = twoOf40();
        Edges.is("shared(1, 1)", x.shared(1, 1), 83);
        Edges.row(x, 0, 0);
        Edges.is("shared(0, 2) of nothing", x.shared(0, 2), 0);
        Edges.row(x, 0, 0);
        Edges.is("shared(0, 1)", x.shared(0, 1), 0);
        Edges.row(x, 0, 83);
        Edges.is("shared(1, 0)", x.shared(1, 0), 0);
        Edges.row(x, 83, 0);
        Edges.is("shared(1, 3)", x.shared(1, 3), 0);
        Edges.row(x, 83, 84);
        // a NODE that is BARE in one of both
        AbsenceTree y = Edges.mapped("3,0=1,7=1");
        y.puts(7, 0);
        Edges.is("shared(0, 1)", y.shared(0, 1), 3);
        Edges.row(y, 4, 1);
        Edges.is("shared(1, 0)", y.shared(1, 0), 3);
        Edges.row(y, 1, 4);
        y.back(0);
        Edges.is("shared(0, 2)", y.shared(0, 2), 7);
        Edges.row(y, 0, 0);
        AbsenceTree z = Edges.worn();
        Edges.is("shared(3, 14) of the oldest and the latest", z.shared(3, 14), 7);
        Edges.row(z, 4, 4);
    }

    @Edges.Says("30: NONE: no such VERSIONS.")
    private static void sharedNone() {
        for (int[] n : NO_VERSIONS) {
            Edges.refused("shared(" + n[0] + ", " + n[1] + ")", Edges.NONE, x -> x.shared(n[0], n[1]));
        }
    }

    // ---- promise 31

    @Edges.Says("31: KEYS of unlike VALUES in two VERSIONS: how many; the ROW: they, rising.")
    private static void differ() {
        AbsenceTree x = twoOf40();
        Edges.is("differ(1, 3) of 80", x.differ(1, 3), 80);
        Edges.row(x, from(0, 80));
        Edges.is("differ(3, 1) of 80", x.differ(3, 1), 80);
        Edges.row(x, from(0, 80));
        Edges.is("differ(3, 2)", x.differ(3, 2), 40);
        Edges.row(x, from(40, 40));
        Edges.is("differ(0, 2) of nothing", x.differ(0, 2), 0);
        Edges.row(x);
        AbsenceTree y = Edges.mapped("8,0=1,255=2");
        y.flips(255);
        y.flips(128);
        Edges.is("differ(0, 2)", y.differ(0, 2), 4);
        Edges.row(y, 0, 127, 128, 255);
        AbsenceTree z = Edges.worn();
        Edges.is("differ(3, 14)", z.differ(3, 14), 1);
        Edges.row(z, 0);
        Edges.is("differ(14, 14)", z.differ(14, 14), 0);
        Edges.row(z);
    }

    @Edges.Says("31: NONE: no such VERSIONS.")
    private static void differNone() {
        for (int[] n : NO_VERSIONS) {
            Edges.refused("differ(" + n[0] + ", " + n[1] + ")", Edges.NONE, x -> x.differ(n[0], n[1]));
        }
    }

    // ---- promise 32

    @Edges.Says("32: Going down from the ROOT only below NODES of which not all VALUES are alike in two VERSIONS: NODES that are looked at (the ROOT, and both below each such one).")
    private static void looks() {
        for (int d = 3; d <= 8; d++) {
            AbsenceTree x = Edges.mapped("" + d);
            int last = (1 << d) - 1;
            Edges.is("looks(0, 0)", x.looks(0, 0), 1);
            x.puts(last, 1);
            Edges.is("looks(0, 1) of one KEY", x.looks(0, 1), 1 + 2 * d);
            Edges.is("looks(1, 0) of one KEY", x.looks(1, 0), 1 + 2 * d);
            x.puts(0, 1);
            Edges.is("looks(0, 2) of both ends", x.looks(0, 2), 1 + 2 * (2 * d - 1));
            x.back(0);
            Edges.is("looks(0, 3) of alike ones", x.looks(0, 3), 1);
        }
        AbsenceTree y = Edges.mapped("3");
        y.sheet(0, 2, 8, 1, 1);
        Edges.is("looks(0, 1) of all KEYS", y.looks(0, 1), 15);
        AbsenceTree z = Edges.worn();
        Edges.is("looks(3, 14)", z.looks(3, 14), 7);
        Edges.row(z, 1, 2, 3);
    }

    @Edges.Says("32: NONE: no such VERSIONS.")
    private static void looksNone() {
        for (int[] n : NO_VERSIONS) {
            Edges.refused("looks(" + n[0] + ", " + n[1] + ")", Edges.NONE, x -> x.looks(n[0], n[1]));
        }
    }

    // ---- promise 33

    @Edges.Says("33: Unlike NODES that are not BARE in all KEPT VERSIONS (of one LEVEL, number and VALUES they are one): how many; the ROW: those of all VERSIONS, each for itself, together.")
    private static void all() {
        AbsenceTree x = new AbsenceTree();
        Edges.is("all() of nothing", x.all(), 0);
        Edges.row(x, 0);
        AbsenceTree y = Edges.full();
        Edges.is("all() of 40 and none", y.all(), 83);
        Edges.row(y, 83);
        y.clears(0, 255);
        y.back(1);
        Edges.is("all() of those that are alike again", y.all(), 83);
        Edges.row(y, 166);
        // of one VALUE in another KEY or another LEVEL a NODE is another one
        AbsenceTree z = Edges.mapped("3,0=1");
        z.moves(0, 1);
        Edges.is("all() of 1 in 0, then in 1", z.all(), 8);
        Edges.row(z, 8);
        z.moves(1, 7);
        Edges.is("all() of 1 in 0, then in 1, then in 7", z.all(), 12);
        Edges.row(z, 12);
        z.moves(7, 0);
        Edges.is("all() of 1 in 0 again", z.all(), 12);
        Edges.row(z, 16);
    }

    @Edges.Says("33: (of one LEVEL, number and VALUES they are one)")
    private static void allOfOne() {
        AbsenceTree x = Edges.mapped("3");
        x.puts(0, 1);
        x.puts(7, 1);
        x.puts(3, 1);
        // 4, then KEY 7, two above it and the ROOT, then KEY 3, two above it and the ROOT
        Edges.is("all() of one KEY more each time", x.all(), 4 + 4 + 4);
        Edges.row(x, 4 + 7 + 9);
        // a NODE that is as in a VERSION that is not the one ahead, beside one that is not
        AbsenceTree y = Edges.mapped("3,0=1");
        y.puts(0, 2);
        Edges.write(y, "0=1,1=5").batch();
        Edges.is("all() of a KEY that is as it was, beside another one", y.all(), 4 + 4 + 4);
        Edges.row(y, 4 + 4 + 5);
        AbsenceTree z = Edges.mapped("3,2=1,3=2,4=7");
        z.clears(0, 7);
        Edges.write(z, "2=1,3=2,0=3,4=8").batch();
        Edges.is("all() of a NODE of LEVEL 1 that is as it was", z.all(), 8 + 7);
        Edges.row(z, 8 + 10);
        // by chance MARKS of these VALUES of KEYS 0 and 1 are alike above them
        AbsenceTree chance = Edges.mapped("3,0=50,1=749");
        chance.clears(0, 7);
        Edges.is("batch()", Edges.write(chance, "0=12,1=940").batch(), 2);
        chance.node(0, 1, 0);
        long mark = chance.row(0);
        chance.node(2, 1, 0);
        Edges.row(chance, mark);
        Edges.is("all() of unlike VALUES and like MARKS", chance.all(), 10);
        Edges.row(chance, 10);
        Edges.is("back(0)", chance.back(0), 3);
        Edges.is("all() of three", chance.all(), 10);
        Edges.row(chance, 15);
        Edges.is("shared(0, 2)", chance.shared(0, 2), 0);
        Edges.is("looks(0, 2)", chance.looks(0, 2), 7);
    }

    @Edges.Says("33: in all KEPT VERSIONS (12 of them, and not those ahead)")
    private static void allOfTwelve() {
        AbsenceTree x = Edges.mapped("3,7=9");
        for (int i = 1; i <= 11; i++) {
            x.puts(0, i);
        }
        Edges.is("all() of 12", x.all(), 4 + 11 * 4);
        Edges.row(x, 4 + 11 * 7);
        x.puts(0, 12);
        Edges.is("all() behind the first one", x.all(), 3 + 12 * 4);
        Edges.row(x, 12 * 7);
        x.puts(0, 2);
        Edges.is("all() with a VALUE of the oldest", x.all(), 3 + 11 * 4);
        x.puts(0, 1);
        Edges.is("all() with a VALUE of one that is not KEPT", x.all(), 3 + 12 * 4);
    }

    // ---- promise 34

    @Edges.Says("34: VALUES that a KEY had in KEPT VERSIONS: how many times it became another one; the ROW: the first VERSION and VALUE, then each VERSION in which it was another one than in the one ahead, and that VALUE.")
    private static void history() {
        AbsenceTree x = new AbsenceTree();
        Edges.is("history(15)", x.history(15), 0);
        Edges.row(x, 0, 0);
        AbsenceTree y = Edges.worn();
        long[] due = new long[24];
        for (int i = 0; i < 12; i++) {
            due[2 * i] = i + 3;
            due[2 * i + 1] = i + 3;
        }
        Edges.is("history(0) of 12", y.history(0), 11);
        Edges.row(y, due);
        Edges.is("history(7)", y.history(7), 0);
        Edges.row(y, 3, 9);
        Edges.is("history(3)", y.history(3), 0);
        Edges.row(y, 3, 0);
        AbsenceTree z = Edges.mapped("3,0=5");
        z.puts(0, 0);
        z.puts(1, 1);
        z.puts(0, 5);
        z.puts(0, 999);
        Edges.is("history(0)", z.history(0), 3);
        Edges.row(z, 0, 5, 1, 0, 3, 5, 4, 999);
        z.undo();
        Edges.is("history(0) behind undo()", z.history(0), 2);
        Edges.row(z, 0, 5, 1, 0, 3, 5);
    }

    @Edges.Says("34: NONE: no such KEY.")
    private static void historyNone() {
        for (int key : NO_KEYS) {
            Edges.refused("history(" + key + ")", Edges.NONE, x -> x.history(key));
        }
    }

    // ---- promise 35

    @Edges.Says("35: The KEY of which the VALUE became another one most often through KEPT VERSIONS (of equal ones the least): it; the ROW: how often.")
    private static void hot() {
        AbsenceTree x = Edges.worn();
        Edges.is("hot() of 12 VERSIONS", x.hot(), 0);
        Edges.row(x, 11);
        AbsenceTree y = Edges.mapped("8");
        y.puts(255, 1);
        Edges.is("hot() of the last KEY", y.hot(), 255);
        Edges.row(y, 1);
        y.puts(0, 1);
        Edges.is("hot() of equal ones", y.hot(), 0);
        Edges.row(y, 1);
        y.puts(255, 2);
        Edges.is("hot() of the last KEY", y.hot(), 255);
        Edges.row(y, 2);
        y.swaps(0, 255);
        Edges.is("hot() behind swaps()", y.hot(), 255);
        Edges.row(y, 3);
        y.undo();
        Edges.is("hot() behind undo()", y.hot(), 255);
        Edges.row(y, 2);
        // what a VALUE became in a VERSION that is not KEPT any more does not count
        AbsenceTree z = Edges.mapped("3");
        z.puts(7, 1);
        z.puts(7, 2);
        for (int i = 0; i < 10; i++) {
            z.puts(i % 5, i + 1);
        }
        Edges.is("hot() of VERSIONS 1 .. 12", z.hot(), 0);
        Edges.row(z, 2);
    }

    @Edges.Says("35: -2: no VALUE did.")
    private static void hotNone() {
        Edges.refused("hot()", -2, () -> Edges.mapped(Edges.SMALL), AbsenceTree::hot);
        Edges.refused("hot()", -2, AbsenceTree::new, AbsenceTree::hot);
        Edges.refused("hot() behind undo()", -2, () -> {
            AbsenceTree x = Edges.mapped(Edges.SMALL);
            x.puts(0, 1);
            x.versions();
            x.undo();
            return x;
        }, AbsenceTree::hot);
    }

    // ---- promise 36

    @Edges.Says("36: What the ROOT were, were the VALUE of a KEY v (0 .. 999) in a VERSION: how many KEYS would have a VALUE (41, too); the ROW: that ROOT, how many MARKS of NODES would be others.")
    private static void would() {
        AbsenceTree x = Edges.mapped("3,1=5");
        Edges.is("would(0, 7, 999)", x.would(0, 7, 999), 2);
        Edges.row(x, Edges.markOf(0, 0, 5, 0, 0, 0, 0, 0, 999), 4);
        Edges.is("would(0, 0, 1)", x.would(0, 0, 1), 2);
        Edges.row(x, Edges.markOf(0, 1, 5, 0, 0, 0, 0, 0, 0), 4);
        Edges.is("would(0, 1, 0)", x.would(0, 1, 0), 0);
        Edges.row(x, Edges.bareMark(3), 4);
        Edges.is("would(0, 1, 5)", x.would(0, 1, 5), 1);
        Edges.row(x, Edges.markOf(0, 0, 5, 0, 0, 0, 0, 0, 0), 0);
        Edges.is("would(0, 2, 0)", x.would(0, 2, 0), 1);
        Edges.row(x, Edges.markOf(0, 0, 5, 0, 0, 0, 0, 0, 0), 0);
        AbsenceTree y = Edges.full();
        Edges.is("would(1, 255, 1) of 41", y.would(1, 255, 1), 41);
        Edges.is("count(7)", y.count(7), 2);
        Edges.is("row(1)", y.row(1), 9);
        Edges.is("would(1, 39, 0)", y.would(1, 39, 0), 39);
        Edges.is("would(1, 39, 999)", y.would(1, 39, 999), 40);
        Edges.is("would(0, 255, 1)", y.would(0, 255, 1), 1);
        // what were stays a question
        Edges.is("count(4)", y.count(4), 40);
        Edges.is("puts(255, 1)", y.puts(255, 1), -5);
        Edges.is("would(3, 0, 14) of the oldest", Edges.worn().would(3, 0, 14), 5);
    }

    @Edges.Says("36: NONE: others.")
    private static void wouldNone() {
        int[][] none = {{14, 8, 1}, {14, -1, 1}, {14, 0, 1000}, {14, 0, -1}, {14, 0, Edges.LEAST}, {14, 0, Edges.GREATEST}, {2, 0, 1}, {15, 0, 1},
            {14, Edges.LEAST, 1}, {14, Edges.GREATEST, 1}};
        for (int[] n : none) {
            Edges.refused("would(" + n[0] + ", " + n[1] + ", " + n[2] + ")", Edges.NONE, x -> x.would(n[0], n[1], n[2]));
        }
    }

    // ---- promise 37

    @Edges.Says("37: KEYS that are unlike in a VERSION and in one that it came of, and likewise in another VERSION and that one, but not the same in both: how many; the ROW: they, rising.")
    private static void against() {
        AbsenceTree x = twoOf40();
        Edges.is("batch()", Edges.write(x, "0=9,1=2,41=0,42=9,43=0").batch(), 4);
        Edges.is("against(3, 3, 1) of one", x.against(3, 3, 1), 0);
        Edges.row(x);
        Edges.is("against(1, 3, 0)", x.against(1, 3, 0), 0);
        Edges.row(x);
        // of 1, in 3 and 4: 0 became 0 and 9; 1 became 0 and stayed; 2 became 0 in both; 41 became 2 and stayed; 42 became 3 and 9
        Edges.is("against(3, 4, 1)", x.against(3, 4, 1), 2);
        Edges.row(x, 0, 42);
        Edges.is("against(4, 3, 1)", x.against(4, 3, 1), 2);
        Edges.row(x, 0, 42);
        Edges.is("against(1, 4, 1)", x.against(1, 4, 1), 0);
        Edges.row(x);
        Edges.is("against(1, 4, 3)", x.against(1, 4, 3), 2);
        Edges.row(x, 0, 42);
        Edges.is("against(3, 14, 14) of worn()", Edges.worn().against(3, 14, 14), 0);
        AbsenceTree y = Edges.worn();
        Edges.is("against(4, 14, 3)", y.against(4, 14, 3), 1);
        Edges.row(y, 0);
    }

    @Edges.Says("37: how many; the ROW: they, rising (as many as there can be)")
    private static void againstMost() {
        // three VERSIONS of 40 KEYS each, no two of them alike in any of 60 KEYS: 0 .. 39 have 1; 20 .. 59 have 2; the others have 3
        AbsenceTree x = Edges.mapped("8");
        x.sheet(0, 2, 40, 1, 0);
        x.clears(0, 255);
        x.sheet(20, 2, 40, 2, 0);
        x.clears(20, 39);
        x.sheet(0, 2, 20, 3, 0);
        x.sheet(40, 2, 20, 3, 0);
        Edges.is("count(4)", x.count(4), 40);
        Edges.is("against(1, 3, 6)", x.against(1, 3, 6), 60);
        Edges.row(x, from(0, 60));
        Edges.is("joins(1, 3, 6)", x.joins(1, 3, 6), -4);
        Edges.row(x, 60);
    }

    private static final int[][] NO_THREE = {{2, 14, 14}, {14, 2, 14}, {14, 14, 2}, {15, 14, 14}, {14, 15, 14}, {14, 14, 15}, {-1, 3, 14}, {3, -1, 14},
        {3, 14, -1}, {Edges.LEAST, 3, 3}, {3, Edges.GREATEST, 3}, {3, 3, Edges.LEAST}};

    @Edges.Says("37: NONE: no such VERSIONS.")
    private static void againstNone() {
        for (int[] n : NO_THREE) {
            Edges.refused("against(" + n[0] + ", " + n[1] + ", " + n[2] + ")", Edges.NONE, x -> x.against(n[0], n[1], n[2]));
        }
    }

    // ---- promise 38

    @Edges.Says("38: VERSIONS that are KEPT: how many; the ROW: the first, the latest one.")
    private static void versions() {
        AbsenceTree x = new AbsenceTree();
        for (int i = 0; i <= 11; i++) {
            Edges.is("versions() of " + i, x.versions(), i + 1);
            Edges.row(x, 0, i);
            Edges.is("count(3)", x.count(3), i + 1);
            x.puts(0, i + 1);
        }
        for (int i = 12; i <= 40; i++) {
            Edges.is("versions() of " + i, x.versions(), 12);
            Edges.row(x, i - 11, i);
            Edges.is("count(3)", x.count(3), 12);
            x.puts(0, i + 1);
        }
        // 41 is the latest, 30 the oldest one
        for (int i = 41; i > 30; i--) {
            Edges.is("undo()", x.undo(), i - 1);
            Edges.is("versions() behind undo()", x.versions(), i - 30);
            Edges.row(x, 30, i - 1);
        }
        for (int i = 31; i <= 41; i++) {
            Edges.is("puts()", x.puts(1, i), i);
            Edges.is("versions()", x.versions(), i - 29);
            Edges.row(x, 30, i);
        }
        x.puts(1, 1);
        Edges.is("versions()", x.versions(), 12);
        Edges.row(x, 31, 42);
    }

    // ---- promise 39

    @Edges.Says("39: The latest VERSION in which a KEY had another VALUE than now, of those that are KEPT; the ROW: that VALUE.")
    private static void since() {
        AbsenceTree x = Edges.worn();
        Edges.is("since(0)", x.since(0), 13);
        Edges.row(x, 13);
        x.puts(1, 0);
        for (int i = 0; i < 10; i++) {
            x.puts(0, 100 + i);
        }
        // 15 .. 25 are behind the change of KEY 1; 14 is the oldest
        Edges.is("versions()", x.versions(), 12);
        Edges.is("since(1) of the oldest", x.since(1), 14);
        Edges.row(x, 5);
        x.puts(0, 7);
        x.versions();
        Edges.is("since(1) of one that is not KEPT", x.since(1), -2);
        Edges.row(x, 15, 26);
        x.puts(1, 5);
        Edges.is("since(1)", x.since(1), 26);
        Edges.row(x, 0);
    }

    @Edges.Says("39: The latest VERSION in which a KEY had another VALUE than now (of several the latest one)")
    private static void sinceLatest() {
        AbsenceTree x = Edges.mapped("3,7=5");
        x.puts(7, 6);
        x.puts(7, 5);
        x.puts(7, 4);
        x.puts(7, 5);
        x.puts(0, 1);
        Edges.is("since(7)", x.since(7), 3);
        Edges.row(x, 4);
        Edges.is("since(0)", x.since(0), 4);
        Edges.row(x, 0);
    }

    @Edges.Says("39: -2: none; NONE: no such KEY.")
    private static void sinceNone() {
        Edges.refused("since(1)", -2, x -> x.since(1));
        Edges.refused("since(3)", -2, x -> x.since(3));
        Edges.refused("since(0)", -2, () -> Edges.mapped(Edges.SMALL), x -> x.since(0));
        for (int key : NO_KEYS) {
            Edges.refused("since(" + key + ")", Edges.NONE, x -> x.since(key));
        }
    }

    public static void main(String[] args) throws IllegalAccessException {
        Edges.runAll(VersionsEdgesTest.class);
    }
}
