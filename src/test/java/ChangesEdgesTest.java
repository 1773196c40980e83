/** The edges that promises 40 to 49 name: changes. */
public final class ChangesEdgesTest {
    private static void values(AbsenceTree x, int version, int... due) {
        for (int key = 0; key < due.length; key++) {
            Edges.is("get(" + version + ", " + key + ")", x.get(version, key), due[key]);
        }
    }

    private static AbsenceTree nothing() {
        return Edges.write(new AbsenceTree(), "4,9=3");
    }

    private static AbsenceTree doneDay(String text, int done, int stopped, int version) {
        AbsenceTree x = Edges.write(Edges.worn(), text);
        Edges.is("day() of " + text, x.day(), done);
        Edges.row(x, stopped, version);
        Edges.is("count(8)", x.count(8), 0);
        Edges.is("count(2)", x.count(2), version);
        return x;
    }

    private static void dayFault(String text, int place) {
        Edges.refusedText("day()", text, -1 - place, AbsenceTree::day);
    }

    private static final Edges.Call[] CHANGES = {
        x -> x.puts(3, 1), x -> x.moves(0, 3), x -> x.flips(1), x -> x.swaps(0, 7), x -> x.back(5), x -> x.joins(3, 13, 13),
        x -> x.clears(1, 2), x -> x.sheet(2, 2, 3, 4, 1), x -> Edges.write(x, "3=1,0=0").batch(),
        x -> Edges.write(x, "p003001c000000").day(), x -> Edges.write(x, "4,1=1").map(), AbsenceTree::undo,
    };

    /** Calls behind which VERSIONS and VALUES are as ahead of them. */
    private static final Edges.Call[] IDLE = {
        x -> x.would(3, 5, 9), x -> x.years(1, 60), x -> x.puts(0, 14), x -> x.sheet(1, 2, 2, 5, 2), x -> x.sheet(1, 2, 9, 5, 2),
        x -> x.joins(13, 14, 12), x -> x.moves(0, 1), x -> x.flips(0), x -> x.back(14), x -> x.clears(3, 5), x -> x.others(3, 0),
        x -> Edges.write(x, "4,1=1,2=2,").map(), x -> Edges.write(x, "8,255=1;").map(), x -> Edges.write(x, "3,5=9x").map(),
        x -> Edges.write(x, "3=1,").batch(), x -> Edges.write(x, "0=0,1=0,2=1000").batch(), x -> Edges.write(x, "1=5").batch(),
        x -> Edges.write(x, "p000001x").day(), x -> Edges.write(x, "b99").day(), x -> Edges.write(x, "0,1").together(3),
        x -> Edges.write(x, "1=1:1:x").told(), x -> x.shared(3, 14), x -> x.stretch(14, 1, 6), x -> x.all(),
    };

    @Edges.Says("T2: Refused calls answer NONE, or false, and change nothing .. Questions change nothing (changes go on as without them)")
    private static void changesGoOn() {
        for (int i = 0; i < IDLE.length; i++) {
            for (int j = 0; j < CHANGES.length; j++) {
                AbsenceTree x = Edges.worn();
                IDLE[i].on(x);
                AbsenceTree y = Edges.worn();
                long due = CHANGES[j].on(y);
                Edges.yes("change " + j + " is done", due >= 0);
                Edges.is("change " + j + " behind idle call " + i, CHANGES[j].on(x), due);
                Edges.alike("change " + j + " behind idle call " + i, x, y, false, false);
            }
        }
    }

    @Edges.Says("48: The latest VERSION goes: the one ahead of it is the latest then. (changes go on from there)")
    private static void changesGoOnBehindUndo() {
        Edges.Call[] undone = {x -> x.puts(3, 3), x -> x.clears(0, 7), x -> x.flips(7), x -> x.back(3)};
        for (int i = 0; i < undone.length; i++) {
            for (int j = 0; j < CHANGES.length; j++) {
                AbsenceTree x = Edges.worn();
                x.undo();
                Edges.is("change " + i + " that is undone", undone[i].on(x), 14);
                x.undo();
                AbsenceTree y = Edges.worn();
                y.undo();
                Edges.is("change " + j + " behind undo()", CHANGES[j].on(x), CHANGES[j].on(y));
                Edges.alike("change " + j + " behind undo()", x, y, false, false);
            }
        }
    }

    @Edges.Says("51: They are as they were kept under a number (changes go on from there)")
    private static void changesGoOnBehindAgain() {
        for (int j = 0; j < CHANGES.length; j++) {
            AbsenceTree x = Edges.worn();
            x.keep(1);
            Edges.write(x, "8,255=1").map();
            x.puts(0, 7);
            x.again(1);
            AbsenceTree y = Edges.worn();
            y.keep(1);
            y.again(1);
            Edges.is("change " + j + " behind again()", CHANGES[j].on(x), CHANGES[j].on(y));
            Edges.alike("change " + j + " behind again()", x, y, false, false);
        }
    }

    @Edges.Says("40: -5: 41 would have one (and nothing is changed by that)")
    private static void changesGoOnBehind41() {
        Edges.Call[] idle = {
            x -> x.puts(255, 1), x -> x.sheet(40, 2, 3, 1, 1), x -> Edges.write(x, "255=1,0=0,1=0,254=1,253=1").batch(), x -> x.would(1, 255, 1),
        };
        Edges.Call[] changes = {
            x -> x.puts(0, 9), x -> x.moves(0, 40), x -> x.flips(1), x -> x.swaps(0, 40), x -> x.back(0), x -> x.joins(1, 0, 1),
            x -> x.clears(0, 0), x -> x.sheet(39, 2, 2, 0, 1), x -> Edges.write(x, "0=0,40=1").batch(),
        };
        for (int i = 0; i < idle.length; i++) {
            for (int j = 0; j < changes.length; j++) {
                AbsenceTree x = Edges.full();
                idle[i].on(x);
                Edges.is("change " + j + " behind idle call " + i, changes[j].on(x), 2);
                AbsenceTree y = Edges.full();
                changes[j].on(y);
                Edges.alike("change " + j + " behind idle call " + i, x, y, false, false);
            }
        }
    }

    // ---- promise 40

    @Edges.Says("40: VALUE of a KEY becomes v (0 .. 999): the VERSION.")
    private static void puts() {
        AbsenceTree x = Edges.worn();
        Edges.is("puts(7, 999)", x.puts(7, 999), 15);
        Edges.is("puts(3, 1)", x.puts(3, 1), 16);
        Edges.is("puts(0, 0)", x.puts(0, 0), 17);
        values(x, 17, 0, 5, 7, 1, 0, 0, 5, 999);
        values(x, 14, 14, 5, 7, 0, 0, 0, 5, 9);
        Edges.row(x, 1, 2, 3);
        AbsenceTree y = Edges.mapped("8");
        Edges.is("puts(255, 1)", y.puts(255, 1), 1);
    }

    @Edges.Says("40: -2: it is so; -5: 41 would have one; NONE: others.")
    private static void putsRefused() {
        Edges.refused("puts(0, 14)", -2, x -> x.puts(0, 14));
        Edges.refused("puts(3, 0)", -2, x -> x.puts(3, 0));
        Edges.refused("puts(255, 0) with 40", -2, Edges::full, x -> x.puts(255, 0));
        Edges.refused("puts(39, 40) with 40", -2, Edges::full, x -> x.puts(39, 40));
        Edges.refused("puts(40, 1)", -5, Edges::full, x -> x.puts(40, 1));
        Edges.refused("puts(255, 999)", -5, Edges::full, x -> x.puts(255, 999));
        AbsenceTree y = Edges.full();
        Edges.is("puts(39, 999)", y.puts(39, 999), 2);
        Edges.is("puts(39, 0)", y.puts(39, 0), 3);
        Edges.is("puts(40, 1)", y.puts(40, 1), 4);
        Edges.is("puts(39, 1)", y.puts(39, 1), -5);
        int[][] none = {{8, 1}, {-1, 1}, {Edges.LEAST, 1}, {Edges.GREATEST, 1}, {0, 1000}, {0, -1}, {0, Edges.LEAST}, {0, Edges.GREATEST}};
        for (int[] n : none) {
            Edges.refused("puts(" + n[0] + ", " + n[1] + ")", Edges.NONE, x -> x.puts(n[0], n[1]));
        }
    }

    // ---- promise 41

    @Edges.Says("41: The VALUE of a KEY goes to another KEY, which has none: the VERSION.")
    private static void moves() {
        AbsenceTree x = Edges.worn();
        Edges.is("moves(7, 3)", x.moves(7, 3), 15);
        values(x, 15, 14, 5, 7, 9, 0, 0, 5, 0);
        Edges.is("moves(0, 7)", x.moves(0, 7), 16);
        values(x, 16, 0, 5, 7, 9, 0, 0, 5, 14);
        Edges.is("moves(7, 0)", x.moves(7, 0), 17);
        values(x, 14, 14, 5, 7, 0, 0, 0, 5, 9);
        Edges.row(x, 1, 2, 3);
        AbsenceTree y = Edges.full();
        Edges.is("moves(0, 255) of 40", y.moves(0, 255), 2);
        Edges.is("get(2, 255)", y.get(2, 255), 1);
        Edges.is("count(4)", y.count(4), 40);
    }

    @Edges.Says("41: -2: it has none; -3: that has one; NONE: no such KEYS, both are one.")
    private static void movesRefused() {
        Edges.refused("moves(3, 4)", -2, x -> x.moves(3, 4));
        Edges.refused("moves(3, 0)", -2, x -> x.moves(3, 0));
        Edges.refused("moves(0, 1)", -3, x -> x.moves(0, 1));
        Edges.refused("moves(1, 6) of one VALUE", -3, x -> x.moves(1, 6));
        int[][] none = {{0, 0}, {3, 3}, {0, 8}, {8, 0}, {3, 8}, {8, 3}, {8, 8}, {-1, 3}, {0, -1}, {Edges.LEAST, 3}, {0, Edges.GREATEST}};
        for (int[] n : none) {
            Edges.refused("moves(" + n[0] + ", " + n[1] + ")", Edges.NONE, x -> x.moves(n[0], n[1]));
        }
    }

    // ---- promise 42

    @Edges.Says("42: Each VALUE goes to the KEY that is its own exclusive or a mask (1 .. KEYS less 1): the VERSION.")
    private static void flips() {
        AbsenceTree x = Edges.worn();
        Edges.is("flips(1)", x.flips(1), 15);
        values(x, 15, 5, 14, 0, 7, 0, 0, 9, 5);
        Edges.is("flips(7)", x.flips(7), 16);
        values(x, 16, 5, 9, 0, 0, 7, 0, 14, 5);
        Edges.row(x, 1, 2, 3);
        AbsenceTree y = Edges.full();
        Edges.is("flips(255) of 40", y.flips(255), 2);
        Edges.is("count(4)", y.count(4), 40);
        for (int key = 0; key < 256; key++) {
            Edges.is("get(2, " + key + ")", y.get(2, key), key >= 216 ? 256 - key : 0);
        }
    }

    @Edges.Says("42: -2: all is so then; NONE: another mask.")
    private static void flipsRefused() {
        Edges.refused("flips(1) of nothing", -2, ChangesEdgesTest::nothing, x -> x.flips(1));
        Edges.refused("flips(15) of nothing", -2, ChangesEdgesTest::nothing, x -> x.flips(15));
        Edges.refused("flips(16) of nothing", Edges.NONE, ChangesEdgesTest::nothing, x -> x.flips(16));
        Edges.refused("flips(7) of what is so then", -2, () -> Edges.mapped("3,0=3,7=3"), x -> x.flips(7));
        Edges.is("flips(7) of what is not", Edges.mapped("3,0=3,7=4").flips(7), 1);
        for (int mask : new int[] {0, 8, -1, 9, Edges.LEAST, Edges.GREATEST}) {
            Edges.refused("flips(" + mask + ")", Edges.NONE, x -> x.flips(mask));
        }
        Edges.refused("flips(256)", Edges.NONE, Edges::full, x -> x.flips(256));
    }

    // ---- promise 43

    @Edges.Says("43: VALUES of two KEYS change places: the VERSION.")
    private static void swaps() {
        AbsenceTree x = Edges.worn();
        Edges.is("swaps(0, 7)", x.swaps(0, 7), 15);
        values(x, 15, 9, 5, 7, 0, 0, 0, 5, 14);
        Edges.is("swaps(7, 3)", x.swaps(7, 3), 16);
        values(x, 16, 9, 5, 7, 14, 0, 0, 5, 0);
        Edges.is("swaps(4, 0)", x.swaps(4, 0), 17);
        values(x, 17, 0, 5, 7, 14, 9, 0, 5, 0);
        Edges.row(x, 1, 2, 3);
        AbsenceTree y = Edges.full();
        Edges.is("swaps(255, 0) of 40", y.swaps(255, 0), 2);
        Edges.is("get(2, 255)", y.get(2, 255), 1);
        Edges.is("count(4)", y.count(4), 40);
    }

    @Edges.Says("43: -2: they are alike; NONE: as moves().")
    private static void swapsRefused() {
        Edges.refused("swaps(1, 6) of one VALUE", -2, x -> x.swaps(1, 6));
        Edges.refused("swaps(3, 4) without", -2, x -> x.swaps(3, 4));
        int[][] none = {{0, 0}, {3, 3}, {0, 8}, {8, 0}, {3, 8}, {8, 8}, {-1, 3}, {0, -1}, {Edges.LEAST, 3}, {0, Edges.GREATEST}};
        for (int[] n : none) {
            Edges.refused("swaps(" + n[0] + ", " + n[1] + ")", Edges.NONE, x -> x.swaps(n[0], n[1]));
        }
    }

    // ---- promise 44

    @Edges.Says("44: All is as in a VERSION: the VERSION.")
    private static void back() {
        AbsenceTree x = Edges.worn();
        Edges.is("back(3) of the oldest", x.back(3), 15);
        values(x, 15, 3, 5, 7, 0, 0, 0, 5, 9);
        Edges.is("the oldest now", x.root(3), Edges.NONE);
        Edges.is("back(4)", x.back(4), 16);
        values(x, 16, 4, 5, 7, 0, 0, 0, 5, 9);
        values(x, 15, 3, 5, 7, 0, 0, 0, 5, 9);
        Edges.is("back(15) of the one ahead", x.back(15), 17);
        values(x, 17, 3, 5, 7, 0, 0, 0, 5, 9);
        Edges.row(x, 1, 2, 3);
        AbsenceTree y = Edges.full();
        Edges.is("back(0) to nothing", y.back(0), 2);
        Edges.is("count(4)", y.count(4), 0);
        Edges.is("back(1) to 40", y.back(1), 3);
        Edges.is("count(4)", y.count(4), 40);
    }

    @Edges.Says("44: -2: it is so; NONE: no such VERSION.")
    private static void backRefused() {
        Edges.refused("back(14)", -2, x -> x.back(14));
        Edges.refused("back(0)", -2, ChangesEdgesTest::nothing, x -> x.back(0));
        Edges.refused("back(13) to what is alike", -2, () -> {
            AbsenceTree x = Edges.worn();
            x.puts(3, 1);
            x.puts(3, 0);
            return x;
        }, x -> x.back(14));
        for (int version : new int[] {2, 15, 0, -1, Edges.LEAST, Edges.GREATEST}) {
            Edges.refused("back(" + version + ")", Edges.NONE, x -> x.back(version));
        }
    }

    // ---- promise 45

    @Edges.Says("45: From a VERSION on that both came of, what became of it in one VERSION and in another one, together: the VERSION.")
    private static void joins() {
        AbsenceTree x = Edges.mapped("3,0=1,7=1");
        x.puts(0, 0);
        x.back(0);
        x.puts(7, 999);
        Edges.is("joins(1, 3, 0)", x.joins(1, 3, 0), 4);
        values(x, 4, 0, 0, 0, 0, 0, 0, 0, 999);
        x.back(0);
        Edges.is("joins(3, 1, 0)", x.joins(3, 1, 0), 6);
        values(x, 6, 0, 0, 0, 0, 0, 0, 0, 999);
        // what became of it in both is no contest
        Edges.is("joins(1, 4, 0)", x.joins(1, 4, 0), -2);
        Edges.is("joins(1, 1, 0)", x.joins(1, 1, 0), 7);
        values(x, 7, 0, 0, 0, 0, 0, 0, 0, 1);
        Edges.is("joins(0, 0, 0)", x.joins(0, 0, 0), 8);
        values(x, 8, 1, 0, 0, 0, 0, 0, 0, 1);
        Edges.is("count(7)", x.count(7), 0);
        AbsenceTree y = Edges.worn();
        Edges.is("joins(3, 4, 4) of the oldest", y.joins(3, 4, 4), 15);
        values(y, 15, 3, 5, 7, 0, 0, 0, 5, 9);
    }

    @Edges.Says("45: -4: against() is not 0 (the ROW: how many)")
    private static void joinsAgainst() {
        AbsenceTree x = Edges.worn();
        Edges.is("joins(13, 14, 12)", x.joins(13, 14, 12), -4);
        Edges.row(x, 1);
        Edges.alike("joins() that is refused", x, Edges.worn(), false, true);
        // -4 comes ahead of -5
        AbsenceTree y = Edges.full();
        y.back(0);
        y.sheet(39, 2, 40, 9, 0);
        Edges.is("joins(1, 3, 0)", y.joins(1, 3, 0), -4);
        Edges.row(y, 1);
        Edges.is("count(2)", y.count(2), 3);
    }

    private static AbsenceTree twoSheets(int first, int second) {
        AbsenceTree x = Edges.mapped("8");
        x.sheet(0, 2, first, 1, 0);
        x.back(0);
        x.sheet(100, 2, second, 1, 0);
        return x;
    }

    @Edges.Says("45: -5: more than 40 would have a VALUE; -2: all is so now; NONE: no such VERSIONS.")
    private static void joinsRefused() {
        Edges.refused("joins of 21 and 20", -5, () -> twoSheets(21, 20), x -> x.joins(1, 3, 0));
        Edges.refused("joins of 40 and 40", -5, () -> twoSheets(40, 40), x -> x.joins(3, 1, 0));
        AbsenceTree y = twoSheets(20, 20);
        Edges.is("joins of 20 and 20", y.joins(1, 3, 0), 4);
        Edges.is("count(4)", y.count(4), 40);
        Edges.refused("joins(14, 14, 3)", -2, x -> x.joins(14, 14, 3));
        Edges.refused("joins(14, 3, 3)", -2, x -> x.joins(14, 3, 3));
        int[][] none = {{2, 14, 14}, {14, 2, 14}, {14, 14, 2}, {15, 14, 14}, {14, 15, 14}, {14, 14, 15}, {-1, 13, 12}, {13, -1, 12}, {13, 14, -1},
            {2, 14, 13}, {Edges.LEAST, 3, 3}, {3, Edges.GREATEST, 3}, {3, 3, Edges.LEAST}};
        for (int[] n : none) {
            Edges.refused("joins(" + n[0] + ", " + n[1] + ", " + n[2] + ")", Edges.NONE, x -> x.joins(n[0], n[1], n[2]));
        }
    }

    // ---- promise 46

    @Edges.Says("46: VALUES of KEYS from one to another one go: the VERSION.")
    private static void clears() {
        AbsenceTree x = Edges.worn();
        Edges.is("clears(1, 6)", x.clears(1, 6), 15);
        values(x, 15, 14, 0, 0, 0, 0, 0, 0, 9);
        Edges.is("clears(7, 7)", x.clears(7, 7), 16);
        values(x, 16, 14, 0, 0, 0, 0, 0, 0, 0);
        Edges.is("clears(0, 0)", x.clears(0, 0), 17);
        values(x, 17, 0, 0, 0, 0, 0, 0, 0, 0);
        x.back(14);
        Edges.is("clears(0, 7)", x.clears(0, 7), 19);
        Edges.is("count(4)", x.count(4), 0);
        Edges.row(x, 1, 2, 3);
        AbsenceTree y = Edges.full();
        Edges.is("clears(0, 255) of 40", y.clears(0, 255), 2);
        Edges.is("count(4)", y.count(4), 0);
    }

    @Edges.Says("46: -2: none has one; NONE: as sum().")
    private static void clearsRefused() {
        Edges.refused("clears(3, 5)", -2, x -> x.clears(3, 5));
        Edges.refused("clears(3, 3)", -2, x -> x.clears(3, 3));
        Edges.refused("clears(40, 255)", -2, Edges::full, x -> x.clears(40, 255));
        Edges.refused("clears(0, 15)", -2, ChangesEdgesTest::nothing, x -> x.clears(0, 15));
        int[][] none = {{1, 0}, {7, 0}, {0, 8}, {-1, 7}, {8, 8}, {-1, -1}, {0, Edges.GREATEST}, {Edges.LEAST, 7}, {0, -1}, {0, Edges.LEAST}};
        for (int[] n : none) {
            Edges.refused("clears(" + n[0] + ", " + n[1] + ")", Edges.NONE, x -> x.clears(n[0], n[1]));
        }
    }

    // ---- promise 47

    @Edges.Says("47: THE TEXT tells A DAY (an empty one: no ACTS)")
    private static void dayEmpty() {
        doneDay("", 0, 0, 14);
        AbsenceTree x = new AbsenceTree();
        Edges.is("day()", x.day(), 0);
        Edges.row(x, 0, 0);
    }

    @Edges.Says("47: p, three digits, three digits (puts()); m, likewise (moves()); s, likewise (swaps()); c, likewise (clears()); b, two digits (back())")
    private static void dayActs() {
        values(doneDay("p003999", 1, 0, 15), 15, 14, 5, 7, 999, 0, 0, 5, 9);
        values(doneDay("p000000", 1, 0, 15), 15, 0, 5, 7, 0, 0, 0, 5, 9);
        values(doneDay("m007003", 1, 0, 15), 15, 14, 5, 7, 9, 0, 0, 5, 0);
        values(doneDay("s000007", 1, 0, 15), 15, 9, 5, 7, 0, 0, 0, 5, 14);
        values(doneDay("c000006", 1, 0, 15), 15, 0, 0, 0, 0, 0, 0, 0, 9);
        values(doneDay("b03", 1, 0, 15), 15, 3, 5, 7, 0, 0, 0, 5, 9);
        values(doneDay("b13p003001m003004s004000c006007", 5, 0, 19), 19, 1, 5, 7, 0, 13, 0, 0, 0);
        AbsenceTree x = Edges.mapped("8");
        Edges.is("day()", Edges.write(x, "p255999m255254s254000c000254").day(), 4);
        Edges.row(x, 0, 4);
    }

    @Edges.Says("47: they are done one by one, till one can't be (it answers below 0): how many were done; the ROW: 1 if one could not be, else 0, the VERSION then.")
    private static void dayThatStops() {
        String[] stops = {"p008001", "p000014", "p256001", "p999999", "m003004", "m000001", "m000000", "m000008", "s001006", "s000000", "s008000",
            "c003005", "c001000", "c000008", "b14", "b15", "b02", "b99"};
        for (String stop : stops) {
            doneDay(stop, 0, 1, 14);
            doneDay(stop + "p000001", 0, 1, 14);
            doneDay("p005001p005000" + stop, stop.equals("b15") ? 3 : 2, stop.equals("b15") ? 0 : 1, stop.equals("b15") ? 17 : 16);
        }
        values(doneDay("p000001b99p000002", 1, 1, 15), 15, 1, 5, 7, 0, 0, 0, 5, 9);
        // the oldest one goes with each ACT
        doneDay("p000001b03", 1, 1, 15);
        doneDay("p000001b04", 2, 0, 16);
        AbsenceTree x = Edges.full();
        Edges.is("day() of a 41st", Edges.write(x, "p000002p255001").day(), 1);
        Edges.row(x, 1, 2);
    }

    @Edges.Says("47: ACTS one behind another, without signs between (a text of 80 signs)")
    private static void dayOf80() {
        StringBuilder text = new StringBuilder();
        for (int i = 0; i < 11; i++) {
            text.append("p00000").append(i % 2 + 1);
        }
        text.append("b05");
        Edges.is("signs", text.length(), 80);
        doneDay(text.toString(), 11, 1, 25);
        text.setLength(77);
        text.append("b14");
        doneDay(text.toString(), 12, 0, 26);
        dayFault(text.substring(0, 79) + "x", 79);
        dayFault(text.substring(0, 79) + "p", 79);
        dayFault(text.substring(0, 77) + "p00", 80);
        dayFault(text.substring(0, 77) + "p0b", 79);
        dayFault("b14" + "b14" + "b14" + text.substring(0, 70) + "p", 80);
        dayFault(text.substring(0, 77) + "b1", 79);
    }

    @Edges.Says("47: -1 - p: the sign at p can't stand there (its end, if it ends too early); nothing is done then.")
    private static void dayFaults() {
        String[] texts = {"p", "p0", "p00", "p000", "p0000", "p00000", "m", "m00000", "s", "s00000", "c", "c00000", "b", "b1"};
        for (String text : texts) {
            dayFault(text, text.length());
            dayFault("p000001" + text, text.length() + 7);
            dayFault(text + "x", text.length());
        }
        dayFault("x", 0);
        dayFault("P000001", 0);
        dayFault(" p000001", 0);
        dayFault("p000001 ", 7);
        dayFault("p000001,p000002", 7);
        dayFault("p000,001", 4);
        dayFault("p0000010", 7);
        dayFault("b130", 3);
        dayFault("b13b", 4);
        dayFault("p00/001", 3);
        dayFault("p00:001", 3);
        dayFault("p-01001", 1);
        dayFault("0", 0);
        dayFault("a000001", 0);
        dayFault("d000001", 0);
        dayFault("p000001p000002x", 14);
        dayFault("b99x", 3);
    }

    // ---- promise 48

    @Edges.Says("48: The latest VERSION goes: the one ahead of it is the latest then. Refused: it is the only one that is KEPT. (What is IN HAND stays.)")
    private static void undo() {
        AbsenceTree x = Edges.worn();
        for (int version = 13; version >= 3; version--) {
            Edges.is("undo()", x.undo(), version);
            values(x, version, version, 5, 7, 0, 0, 0, 5, 9);
            Edges.is("root() of what went", x.root(version + 1), Edges.NONE);
        }
        Edges.is("undo() of the only one", x.undo(), Edges.NONE);
        Edges.row(x, 1, 2, 3);
        Edges.is("count(3)", x.count(3), 1);
        Edges.is("hand()", x.hand(), 2);
        Edges.row(x, 2, 8, 6, Edges.markOf(0, 14, 5), Edges.markOf(4, 0, 0, 5, 9));
        Edges.is("puts(0, 1) behind it", x.puts(0, 1), 4);
        values(x, 3, 3, 5, 7, 0, 0, 0, 5, 9);
        values(x, 4, 1, 5, 7, 0, 0, 0, 5, 9);
    }

    @Edges.Says("48: Refused: it is the only one that is KEPT.")
    private static void undoRefused() {
        Edges.refused("undo()", Edges.NONE, ChangesEdgesTest::nothing, AbsenceTree::undo);
        Edges.refused("undo() behind undo()", Edges.NONE, () -> {
            AbsenceTree x = Edges.worn();
            for (int i = 0; i < 11; i++) {
                x.undo();
            }
            return x;
        }, AbsenceTree::undo);
        Edges.refused("undo() behind map()", Edges.NONE, () -> {
            AbsenceTree x = Edges.worn();
            x.map();
            return x;
        }, AbsenceTree::undo);
        Edges.is("undo() of two", Edges.full().undo(), 0);
    }

    // ---- promise 49

    /** What years() does, done by puts(): how many of them are so. */
    private static AbsenceTree lived(AbsenceTree x, int seed, int n) {
        long r = seed & 0xFFFFFFFFL;
        for (int i = 0; i < n; i++) {
            r = (r * 1103515245L + 12345) & 0xFFFFFFFFL;
            int key = (int) ((r >> 16) % x.count(1));
            r = (r * 1103515245L + 12345) & 0xFFFFFFFFL;
            int value = 0;
            if ((r >> 16) % 4 != 0) {
                r = (r * 1103515245L + 12345) & 0xFFFFFFFFL;
                value = (int) ((r >> 16) % 999) + 1;
            }
            x.puts(key, value);
        }
        return x;
    }

    private static void yearsAsLived(Edges.Maker maker, int seed, int n) {
        AbsenceTree due = lived(maker.make(), seed, n);
        AbsenceTree x = maker.make();
        String call = "years(" + seed + ", " + n + ")";
        Edges.is(call, x.years(seed, n), due.count(4));
        int latest = due.count(2);
        int nodes = due.nodes(latest);
        due.root(latest);
        Edges.is("count(7) behind " + call, x.count(7), 2);
        Edges.is("the ROOT of " + call, x.row(0), due.row(0));
        Edges.is("the NODES of " + call, x.row(1), nodes);
    }

    @Edges.Says("49: n times (1 .. 60): a DRAW of KEYS, a DRAW of 4 (0: VALUE 0; else a DRAW of 999 and 1): puts() .. how many have a VALUE then; the ROW: the ROOT then, NODES that are not BARE.")
    private static void years() {
        int[] seeds = {0, 1, -1, 12345, Edges.LEAST, Edges.GREATEST, 42, -1103515245};
        for (int seed : seeds) {
            for (int n : new int[] {1, 2, 3, 59, 60}) {
                yearsAsLived(AbsenceTree::new, seed, n);
                yearsAsLived(() -> Edges.mapped("8"), seed, n);
                yearsAsLived(() -> Edges.mapped("3,0=1,7=2"), seed, n);
            }
            yearsAsLived(Edges::worn, seed, 60);
        }
    }

    @Edges.Says("49: puts() (what is refused is not done)")
    private static void yearsOf40() {
        for (int seed = 0; seed < 12; seed++) {
            yearsAsLived(Edges::full, seed, 60);
            yearsAsLived(() -> {
                AbsenceTree x = Edges.full();
                x.puts(0, 0);
                return x;
            }, seed, 60);
            yearsAsLived(Edges::full, seed, 1);
        }
    }

    @Edges.Says("49: it is forgotten")
    private static void yearsAreForgotten() {
        for (int n : new int[] {1, 30, 60}) {
            AbsenceTree x = Edges.worn();
            Edges.yes("years(7, " + n + ")", x.years(7, n) >= 0);
            Edges.alike("years(7, " + n + ")", x, Edges.worn(), false, true);
        }
        AbsenceTree y = Edges.full();
        int full = y.years(7, 60);
        long root = y.row(0);
        Edges.is("years(7, 60) once more", y.years(7, 60), full);
        Edges.is("its ROOT", y.row(0), root);
    }

    @Edges.Says("49: NONE: another n.")
    private static void yearsNone() {
        for (int n : new int[] {0, 61, -1, Edges.LEAST, Edges.GREATEST}) {
            Edges.refused("years(1, " + n + ")", Edges.NONE, x -> x.years(1, n));
        }
    }

    @Edges.Says("49: R = R times 1103515245 + 12345 (as ints; R is seed at first), (R without sign, by 65536) % n")
    private static void draws() {
        // the high halves of R are 0 and 54236 (R is below 0): KEY 0, of 4 a 0
        AbsenceTree x = Edges.mapped("3,0=5,1=6");
        Edges.is("years(0, 1)", x.years(0, 1), 1);
        Edges.row(x, Edges.markOf(0, 0, 6, 0, 0, 0, 0, 0, 0), 4);
        // 16838, 38526 (below 0), 10113: KEY 6, of 4 a 2, of 999 a 123
        Edges.is("years(1, 1)", x.years(1, 1), 3);
        Edges.row(x, Edges.markOf(0, 5, 6, 0, 0, 0, 0, 124, 0), 8);
        // 48697 (below 0), 4409, 9862: KEY 1, of 4 a 1, of 999 a 871
        Edges.is("years(-1, 1)", x.years(-1, 1), 2);
        Edges.row(x, Edges.markOf(0, 5, 872, 0, 0, 0, 0, 0, 0), 5);
    }

    public static void main(String[] args) throws IllegalAccessException {
        Edges.runAll(ChangesEdgesTest.class);
    }
}
