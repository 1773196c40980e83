/** The edges that promises 18 to 29 name: proofs. */
public final class ProofsEdgesTest {
    private static final String WHOLE = "3,0=1,1=2,2=3,3=4,4=5,5=6,6=7,7=8";

    /** Of DEPTH 8, each SIBLING of KEY 0 has a VALUE. */
    private static final String ALL_BESIDE_0 = "8,1=1,2=1,4=1,8=1,16=1,32=1,64=1,128=1";

    private static AbsenceTree nothing() {
        return Edges.write(new AbsenceTree(), "4,9=3");
    }

    private static AbsenceTree toldOf(String text, int marks) {
        AbsenceTree x = Edges.write(Edges.worn(), text);
        Edges.is("told() of " + text, x.told(), marks);
        Edges.is("count(8)", x.count(8), 0);
        Edges.is("count(6)", x.count(6), 1);
        Edges.is("hand()", x.hand(), marks);
        return x;
    }

    private static void toldFault(String text, int place) {
        Edges.refusedText("told()", text, -1 - place, AbsenceTree::told);
    }

    private static void together(AbsenceTree x, int version, String keys, int need, int marks, int work) {
        Edges.is("together(" + version + ") of " + keys, Edges.write(x, keys).together(version), need);
        Edges.row(x, marks, work);
        Edges.is("count(8)", x.count(8), 0);
    }

    private static void togetherFault(String text, int place) {
        Edges.refusedText("together(14)", text, -1 - place, x -> x.together(14));
    }

    // ---- promise 18

    @Edges.Says("18: The PROOF of a KEY in a VERSION is IN HAND then: how many SIBLINGS it tells; the ROW: VALUE, BITS, MARKS.")
    private static void proof() {
        AbsenceTree x = nothing();
        Edges.is("proof(0, 15) of nothing", x.proof(0, 15), 0);
        Edges.row(x, 0, 0);
        Edges.is("hand()", x.hand(), 0);
        Edges.row(x, 15, 0, 0);
        AbsenceTree whole = Edges.mapped(WHOLE);
        Edges.is("proof(0, 7) of all", whole.proof(0, 7), 3);
        Edges.row(whole, 8, 7, Edges.leaf(6, 7), Edges.markOf(4, 5, 6), Edges.markOf(0, 1, 2, 3, 4));
        AbsenceTree y = Edges.mapped(ALL_BESIDE_0);
        Edges.is("proof(0, 0) of 8 SIBLINGS", y.proof(0, 0), 8);
        Edges.is("hand()", y.hand(), 8);
        Edges.is("count(7)", y.count(7), 11);
        Edges.is("proof(0, 128)", y.proof(0, 128), 1);
        int[] values = new int[128];
        for (int key = 1; key < 128; key *= 2) {
            values[key] = 1;
        }
        Edges.row(y, 1, 128, Edges.markOf(0, values));
        AbsenceTree z = Edges.worn();
        Edges.is("proof(3, 1) of the oldest", z.proof(3, 1), 3);
        Edges.row(z, 5, 7, Edges.leaf(0, 3), Edges.markOf(2, 7, 0), Edges.markOf(4, 0, 0, 5, 9));
    }

    @Edges.Says("18: NONE: none such.")
    private static void proofNone() {
        int[][] none = {{14, 8}, {14, -1}, {14, Edges.LEAST}, {14, Edges.GREATEST}, {2, 0}, {15, 0}, {-1, 0}};
        for (int[] n : none) {
            Edges.refused("proof(" + n[0] + ", " + n[1] + ")", Edges.NONE, x -> x.proof(n[0], n[1]));
        }
        Edges.refused("proof(0, 16)", Edges.NONE, ProofsEdgesTest::nothing, x -> x.proof(0, 16));
    }

    // ---- promise 19

    private static void alters(AbsenceTree x, int what, int v) {
        int marks = x.hand();
        long[] due = new long[marks + 3];
        for (int i = 0; i < due.length; i++) {
            due[i] = i == what ? v : x.row(i);
        }
        Edges.yes("alters(" + what + ", " + v + ")", x.alters(what, v));
        Edges.is("hand()", x.hand(), marks);
        Edges.row(x, due);
    }

    @Edges.Says("19: IN HAND KEY (what 0; 0 .. 255), VALUE (1; 0 .. 999), BITS (2; 0 .. 255)")
    private static void altersNumbers() {
        AbsenceTree x = Edges.worn();
        alters(x, 0, 255);
        alters(x, 0, 0);
        alters(x, 0, 8);
        alters(x, 1, 999);
        alters(x, 1, 0);
        alters(x, 2, 255);
        alters(x, 2, 0);
        int[][] none = {{0, 256}, {0, -1}, {0, Edges.LEAST}, {0, Edges.GREATEST}, {1, 1000}, {1, -1}, {1, Edges.LEAST}, {1, Edges.GREATEST},
            {2, 256}, {2, -1}, {2, Edges.LEAST}, {2, Edges.GREATEST}, {-1, 0}, {-1, 5}, {Edges.LEAST, 0}, {Edges.LEAST + 2, 0}, {11, 0},
            {Edges.GREATEST, 0}};
        for (int[] n : none) {
            Edges.refused("alters(" + n[0] + ", " + n[1] + ")", 0, y -> Edges.bit(y.alters(n[0], n[1])));
        }
    }

    @Edges.Says("19: MARK what - 3 (3 .. 10; any int)")
    private static void altersMarks() {
        Edges.Maker eight = () -> {
            AbsenceTree y = Edges.mapped(ALL_BESIDE_0);
            y.proof(0, 0);
            return y;
        };
        for (int what = 3; what <= 10; what++) {
            AbsenceTree x = eight.make();
            alters(x, what, Edges.LEAST);
            alters(x, what, Edges.GREATEST);
            alters(x, what, -1);
            alters(x, what, 0);
            alters(x, what, 1000 + what);
        }
        Edges.refused("alters(11, 1)", 0, eight, y -> Edges.bit(y.alters(11, 1)));
    }

    @Edges.Says("19: Refused: nothing is IN HAND, others, a MARK behind those that there are.")
    private static void altersRefused() {
        for (int what = -1; what <= 11; what++) {
            int w = what;
            Edges.refused("alters(" + what + ", 0) with nothing", 0, ProofsEdgesTest::nothing, x -> Edges.bit(x.alters(w, 0)));
        }
        // worn() has two MARKS IN HAND
        alters(Edges.worn(), 4, 77);
        for (int what = 5; what <= 11; what++) {
            int w = what;
            Edges.refused("alters(" + what + ", 0)", 0, x -> Edges.bit(x.alters(w, 0)));
        }
        Edges.Maker none = () -> {
            AbsenceTree x = Edges.mapped(ALL_BESIDE_0);
            x.proof(0, 0);
            x.clears(0, 255);
            x.proof(1, 0);
            return x;
        };
        Edges.refused("alters(3, 0) without MARKS", 0, none, x -> Edges.bit(x.alters(3, 0)));
        AbsenceTree y = Edges.worn();
        Edges.write(y, "4").map();
        Edges.no("alters(0, 0) behind map()", y.alters(0, 0));
        AbsenceTree z = Edges.worn();
        z.again(0);
        Edges.no("alters(0, 0) behind again()", z.alters(0, 0));
    }

    // ---- promise 20

    @Edges.Says("20: THE TEXT is a PROOF, which is IN HAND then: a number (KEY), =, a number (VALUE), a colon, a number (BITS; one to three digits each)")
    private static void toldNumbers() {
        Edges.row(toldOf("0=0:0", 0), 0, 0, 0);
        Edges.row(toldOf("00=00:00", 0), 0, 0, 0);
        Edges.row(toldOf("000=000:000", 0), 0, 0, 0);
        Edges.row(toldOf("255=999:255", 0), 255, 999, 255);
        Edges.row(toldOf("8=1:9", 0), 8, 1, 9);
        AbsenceTree x = Edges.write(nothing(), "1=2:3");
        Edges.is("told() with nothing IN HAND", x.told(), 0);
        Edges.is("hand()", x.hand(), 0);
        Edges.row(x, 1, 2, 3);
    }

    @Edges.Says("20: then any many times (8 at most) a colon and a MARK (perhaps -, then one to ten digits): how many MARKS")
    private static void toldMarks() {
        Edges.row(toldOf("1=2:3:4", 1), 1, 2, 3, 4);
        Edges.row(toldOf("1=2:3:-4:0:-0:0000000005:-0000000006", 5), 1, 2, 3, -4, 0, 0, 5, -6);
        Edges.row(toldOf("1=2:3:2147483647:-2147483648", 2), 1, 2, 3, Edges.GREATEST, Edges.LEAST);
        Edges.row(toldOf("1=2:3:2147483646:-2147483647", 2), 1, 2, 3, Edges.GREATEST - 1, Edges.LEAST + 1);
        Edges.row(toldOf("1=2:3:1:2:3:4:5:6:7:8", 8), 1, 2, 3, 1, 2, 3, 4, 5, 6, 7, 8);
        Edges.row(toldOf("1=2:3:1:2:3:4:5:6:7", 7), 1, 2, 3, 1, 2, 3, 4, 5, 6, 7);
        String most = "255=999:255:-2147483648:-2147483648:-2147483648:-2147483648:-2147483648:12345678";
        Edges.is("signs", most.length(), 80);
        Edges.row(toldOf(most, 6), 255, 999, 255, Edges.LEAST, Edges.LEAST, Edges.LEAST, Edges.LEAST, Edges.LEAST, 12345678);
        toldFault(most.substring(0, 79) + ":", 80);
        toldFault(most.substring(0, 79) + "x", 79);
        toldFault(most.substring(0, 79) + "-", 79);
        toldFault(most.substring(0, 71) + "-:1234567", 71);
        toldFault("255=999:255:-0000000001:-0000000001:-0000000001:-0000000001:11111111111:00000001", 70);
        String eight = "255=999:255:1234567:1234567:1234567:1234567:1234567:12345678:12345678:1234567890";
        Edges.is("signs", eight.length(), 80);
        Edges.is("told() of 8 in 80 signs", Edges.write(Edges.worn(), eight).told(), 8);
        toldFault("5" + eight.substring(3, 79) + ":", 77);
    }

    @Edges.Says("20: the last digit of a KEY or of BITS above 255")
    private static void toldAbove255() {
        toldFault("256=1:1", 2);
        toldFault("256", 2);
        toldFault("999=1:1", 2);
        toldFault("256=1:256", 2);
        toldFault("1=1:256", 6);
        toldFault("1=1:999", 6);
        toldFault("1=1:256:x", 6);
        toldFault("255=999:300", 10);
    }

    @Edges.Says("20: a fourth digit, ahead of that")
    private static void toldFourthDigit() {
        toldFault("0001=1:1", 3);
        toldFault("2560=1:1", 3);
        toldFault("9999=1:1", 3);
        toldFault("1=0001:1", 5);
        toldFault("1=1000:1", 5);
        toldFault("1=1:0001", 7);
        toldFault("1=1:2560", 7);
        toldFault("1=1:9999:1", 7);
    }

    @Edges.Says("20: of a MARK the eleventh digit, or the last one, if it is no int")
    private static void toldNoInt() {
        toldFault("1=1:1:2147483648", 15);
        toldFault("1=1:1:-2147483649", 16);
        toldFault("1=1:1:9999999999", 15);
        toldFault("1=1:1:-9999999999", 16);
        toldFault("1=1:1:4294967296", 15);
        toldFault("1=1:1:4294967297:1", 15);
        toldFault("1=1:1:00000000001", 16);
        toldFault("1=1:1:-00000000001", 17);
        toldFault("1=1:1:99999999999", 16);
        toldFault("1=1:1:21474836480", 16);
        toldFault("1=1:1:214748364800000000000000000000000000000", 16);
        toldFault("1=1:1:1:2147483648", 17);
    }

    @Edges.Says("20: the colon of a ninth one; its end, if it ends too early")
    private static void toldEnds() {
        toldFault("1=2:3:1:2:3:4:5:6:7:8:9", 21);
        toldFault("1=2:3:1:2:3:4:5:6:7:8:", 21);
        toldFault("1=2:3:1:2:3:4:5:6:7:8x", 21);
        String[] texts = {"", "1", "12", "123", "1=", "1=2", "1=22", "1=222", "1=2:", "1=2:3:", "1=2:3:-", "1=2:3:4:", "1=2:3:4:-"};
        for (String text : texts) {
            toldFault(text, text.length());
        }
        Edges.refusedText("told()", "", -1, ProofsEdgesTest::nothing, AbsenceTree::told);
    }

    @Edges.Says("20: -1 - p: the sign at p can't stand there")
    private static void toldSigns() {
        String[] texts = {"x", "-1=1:1", "=1:1", "1:1:1", "1==1", "1=:1", "1=-1:1", "1=1=1", "1=1::1", "1=1:-1", "1=1:1=1", "1=1:1::", "1=1:1:--1",
            "1=1:1:1-", "1=1:1:+1", "1=1:1:1 ", " 1=1:1", "1=1:1,1", "1=1:1:1,1", "/=1:1", ":=1:1"};
        int[] places = {0, 0, 0, 1, 2, 2, 2, 3, 4, 4, 5, 6, 7, 7, 6, 7, 0, 5, 7, 0, 0};
        for (int i = 0; i < texts.length; i++) {
            toldFault(texts[i], places[i]);
        }
        Edges.refusedText("told()", "1=1:1:x", -7, ProofsEdgesTest::nothing, AbsenceTree::told);
    }

    // ---- promise 21

    @Edges.Says("21: What is IN HAND: how many MARKS; the ROW: KEY, VALUE, BITS, MARKS. -2: nothing.")
    private static void hand() {
        Edges.refused("hand()", -2, ProofsEdgesTest::nothing, AbsenceTree::hand);
        AbsenceTree x = Edges.worn();
        Edges.write(x, "4").map();
        Edges.is("hand() behind map()", x.hand(), -2);
        Edges.row(x, 1, 2, 3);
        AbsenceTree y = Edges.worn();
        Edges.is("hand()", y.hand(), 2);
        Edges.row(y, 2, 8, 6, Edges.markOf(0, 14, 5), Edges.markOf(4, 0, 0, 5, 9));
    }

    // ---- promise 22

    @Edges.Says("22: 1 if what is IN HAND is ACCEPTED by a VERSION (KEYS that there are not never), else 0; the ROW: the MARK to which one comes (0, if the KEY is none).")
    private static void accepts() {
        AbsenceTree x = Edges.mapped("3,6=5");
        // KEY 2 has no VALUE: with KEY 10, of the same lower bits, one would come to the ROOT
        x.proof(0, 2);
        Edges.is("accepts(0)", x.accepts(0), 1);
        Edges.row(x, Edges.markOf(0, 0, 0, 0, 0, 0, 0, 5, 0));
        for (int key = 10; key < 256; key += 8) {
            x.alters(0, key);
            Edges.is("accepts(0) of KEY " + key, x.accepts(0), 0);
            Edges.row(x, 0);
        }
        x.alters(0, 7);
        Edges.is("accepts(0) of the last KEY", x.accepts(0), 0);
        Edges.row(x, Edges.h(Edges.markOf(4, 0, 0, 5, 0), Edges.bareMark(2)));
        AbsenceTree y = Edges.mapped("8,0=1");
        y.proof(0, 255);
        Edges.is("accepts(0) of KEY 255", y.accepts(0), 1);
        AbsenceTree z = Edges.mapped("8");
        z.proof(0, 0);
        Edges.is("accepts(0) of nothing", z.accepts(0), 1);
        Edges.row(z, Edges.bareMark(8));
        z.alters(1, 1);
        Edges.is("accepts(0) of a VALUE that it has not", z.accepts(0), 0);
    }

    @Edges.Says("22: -2: nothing is IN HAND; NONE: no such VERSION.")
    private static void acceptsNone() {
        Edges.refused("accepts(0)", -2, ProofsEdgesTest::nothing, x -> x.accepts(0));
        Edges.refused("accepts(1)", Edges.NONE, ProofsEdgesTest::nothing, x -> x.accepts(1));
        for (int version : new int[] {2, 15, -1, Edges.LEAST, Edges.GREATEST}) {
            Edges.refused("accepts(" + version + ")", Edges.NONE, x -> x.accepts(version));
        }
        Edges.Maker noKey = () -> {
            AbsenceTree x = Edges.worn();
            x.alters(0, 8);
            return x;
        };
        Edges.refused("accepts(15) of KEY 8", Edges.NONE, noKey, x -> x.accepts(15));
    }

    // ---- promise 23

    @Edges.Says("23: VERSIONS that are KEPT by which what is IN HAND is ACCEPTED: how many; the ROW: they, rising.")
    private static void accepted() {
        AbsenceTree x = Edges.worn();
        Edges.is("accepted() of what is altered", x.accepted(), 0);
        Edges.row(x);
        x.proof(3, 0);
        Edges.is("accepted() of the oldest", x.accepted(), 1);
        Edges.row(x, 3);
        x.proof(14, 0);
        Edges.is("accepted() of the latest", x.accepted(), 1);
        Edges.row(x, 14);
        x.back(3);
        x.proof(15, 0);
        Edges.is("accepted() behind back(3)", x.accepted(), 1);
        Edges.row(x, 15);
        // all 12 are by turns alike
        AbsenceTree y = Edges.mapped("3");
        for (int i = 1; i <= 11; i++) {
            y.puts(0, i % 2);
        }
        y.proof(0, 0);
        Edges.is("accepted()", y.accepted(), 6);
        Edges.row(y, 0, 2, 4, 6, 8, 10);
        y.puts(0, 0);
        Edges.is("accepted() behind 0", y.accepted(), 6);
        Edges.row(y, 2, 4, 6, 8, 10, 12);
    }

    @Edges.Says("23: KEYS that there are not never (T1: ACCEPTED); -2: nothing is IN HAND.")
    private static void acceptedNone() {
        Edges.refused("accepted()", -2, ProofsEdgesTest::nothing, AbsenceTree::accepted);
        AbsenceTree x = Edges.mapped("3,6=5");
        x.proof(0, 2);
        Edges.is("accepted()", x.accepted(), 1);
        x.alters(0, 10);
        Edges.is("accepted() of KEY 10", x.accepted(), 0);
        Edges.row(x);
        x.alters(0, 255);
        Edges.is("accepted() of KEY 255", x.accepted(), 0);
    }

    // ---- promise 24

    @Edges.Says("24: The LEVEL of the greatest BARE NODE that has a KEY in a VERSION; the ROW: its first KEY, how many KEYS it has, how many SIBLINGS of it and of those above it are not BARE.")
    private static void bare() {
        for (int d = 3; d <= 8; d++) {
            AbsenceTree x = Edges.mapped("" + d);
            int last = (1 << d) - 1;
            Edges.is("bare(0, last) of nothing", x.bare(0, last), d);
            Edges.row(x, 0, last + 1, 0);
            x.puts(0, 1);
            Edges.is("bare(1, last)", x.bare(1, last), d - 1);
            Edges.row(x, (last + 1) / 2, (last + 1) / 2, 1);
            Edges.is("bare(1, 1)", x.bare(1, 1), 0);
            Edges.row(x, 1, 1, 1);
            Edges.is("bare(0, 0)", x.bare(0, 0), d);
            Edges.row(x, 0, last + 1, 0);
        }
        AbsenceTree y = Edges.mapped(ALL_BESIDE_0);
        Edges.is("bare(0, 0)", y.bare(0, 0), 0);
        Edges.row(y, 0, 1, 8);
        Edges.is("bare(0, 255)", y.bare(0, 255), 6);
        Edges.row(y, 192, 64, 2);
        AbsenceTree z = Edges.full();
        Edges.is("bare(1, 40)", z.bare(1, 40), 3);
        Edges.row(z, 40, 8, 2);
        Edges.is("bare(1, 63)", z.bare(1, 63), 4);
        Edges.row(z, 48, 16, 2);
    }

    @Edges.Says("24: -2: the KEY has a VALUE; NONE: none such.")
    private static void bareNone() {
        Edges.refused("bare(14, 0)", -2, x -> x.bare(14, 0));
        Edges.refused("bare(3, 7)", -2, x -> x.bare(3, 7));
        Edges.refused("bare(1, 39)", -2, Edges::full, x -> x.bare(1, 39));
        int[][] none = {{14, 8}, {14, -1}, {14, Edges.LEAST}, {14, Edges.GREATEST}, {2, 3}, {15, 3}, {2, 0}};
        for (int[] n : none) {
            Edges.refused("bare(" + n[0] + ", " + n[1] + ")", Edges.NONE, x -> x.bare(n[0], n[1]));
        }
    }

    // ---- promise 25

    @Edges.Says("25: THE TEXT is KEYS (as in a MAP, unlike ones) with commas between: NEED of them in a VERSION: how many NODES; the ROW: MARKS that PROOFS of each of them tell, together, WORK of them.")
    private static void togetherOfKeys() {
        AbsenceTree x = Edges.worn();
        together(x, 14, "0", 3, 3, 4);
        together(x, 14, "7", 2, 2, 4);
        together(x, 14, "07", 2, 2, 4);
        together(x, 14, "007", 2, 2, 4);
        together(x, 14, "7,0", 3, 5, 7);
        together(x, 14, "0,1,2,3,4,5,6,7", 0, 3 + 3 + 2 + 3 + 2 + 2 + 2 + 2, 15);
        together(x, 3, "0,1,2,6,7", 0, 3 + 3 + 2 + 2 + 2, 6 + 5);
        AbsenceTree none = Edges.full();
        together(none, 0, "255,0", 0, 0, 17);
        together(none, 1, "255", 1, 1, 9);
        together(none, 1, "39", 4, 4, 9);
        together(none, 1, "40", 2, 2, 9);
    }

    @Edges.Says("25: KEYS with commas between (a text of 80 signs)")
    private static void togetherOf80() {
        StringBuilder text = new StringBuilder("1,22");
        for (int key = 100; key < 119; key++) {
            text.append(',').append(key);
        }
        Edges.is("signs", text.length(), 80);
        AbsenceTree x = Edges.mapped("8");
        Edges.is("together(0) of 80 signs", Edges.write(x, text.toString()).together(0), 0);
        int work = 21;
        for (int level = 1; level <= 8; level++) {
            java.util.Set<Integer> nodes = new java.util.HashSet<>();
            nodes.add(1 >> level);
            nodes.add(22 >> level);
            for (int key = 100; key < 119; key++) {
                nodes.add(key >> level);
            }
            work += nodes.size();
        }
        Edges.row(x, 0, work);
        Edges.is("its end", Edges.write(x, text.substring(0, 79) + ",").together(0), -81);
        Edges.is("another sign", Edges.write(x, text.substring(0, 79) + "x").together(0), -80);
        Edges.is("a KEY that was told", Edges.write(x, text.substring(0, 77) + "100").together(0), -80);
        Edges.is("a KEY that there is not", Edges.write(x, text.substring(0, 77) + "256").together(0), -80);
        Edges.is("a fourth digit", Edges.write(x, "1,2" + text.substring(4) + "9").together(0), -80);
        Edges.row(x, 0, work);
    }

    @Edges.Says("25: (an empty one can't be) .. -1 - p: as map()")
    private static void togetherFaults() {
        togetherFault("", 0);
        togetherFault(",0", 0);
        togetherFault("0,", 2);
        togetherFault("0,,1", 2);
        togetherFault("8", 0);
        togetherFault("008", 2);
        togetherFault("0,8", 2);
        togetherFault("0,0", 2);
        togetherFault("0,00", 3);
        togetherFault("0,1,000", 6);
        togetherFault("0001", 3);
        togetherFault("9999", 3);
        togetherFault("0,0000", 5);
        togetherFault("0=1", 1);
        togetherFault("0;1", 1);
        togetherFault("0 ", 1);
        togetherFault(" 0", 0);
        togetherFault("-1", 0);
        togetherFault("x", 0);
    }

    @Edges.Says("25: -200: no such VERSION (asked first; THE TEXT is emptied).")
    private static void togetherNoVersion() {
        for (int version : new int[] {2, 15, -1, Edges.LEAST, Edges.GREATEST}) {
            for (String text : new String[] {"0", "", "8", "0,", "x"}) {
                Edges.refusedText("together(" + version + ")", text, -200, x -> x.together(version));
            }
        }
        Edges.yes("together(3) of the oldest", Edges.write(Edges.worn(), "0").together(3) >= 0);
    }

    // ---- promise 26

    @Edges.Says("26: NEED (as together()) for all KEYS with a VALUE but one in a VERSION: how many; the ROW: their MARKS, by LEVELS, then numbers.")
    private static void others() {
        AbsenceTree one = Edges.mapped("8,255=1");
        Edges.is("others(0, 255) of the only one", one.others(0, 255), 0);
        Edges.row(one);
        AbsenceTree x = Edges.mapped(WHOLE);
        for (int key = 0; key < 8; key++) {
            Edges.is("others(0, " + key + ") of all", x.others(0, key), 1);
            Edges.row(x, Edges.leaf(key, key + 1));
        }
        AbsenceTree ends = Edges.mapped("8,0=1,255=2");
        int[] values = new int[128];
        values[0] = 1;
        Edges.is("others(0, 0)", ends.others(0, 0), 1);
        Edges.row(ends, Edges.markOf(0, values));
        values[0] = 0;
        values[127] = 2;
        Edges.is("others(0, 255)", ends.others(0, 255), 1);
        Edges.row(ends, Edges.markOf(128, values));
        AbsenceTree y = Edges.full();
        Edges.is("others(1, 39) of 40", y.others(1, 39), 1);
        Edges.row(y, Edges.leaf(39, 40));
    }

    @Edges.Says("26: NONE: none such, the KEY has none.")
    private static void othersNone() {
        int[][] none = {{14, 3}, {14, 8}, {14, -1}, {14, Edges.LEAST}, {14, Edges.GREATEST}, {2, 0}, {15, 0}};
        for (int[] n : none) {
            Edges.refused("others(" + n[0] + ", " + n[1] + ")", Edges.NONE, x -> x.others(n[0], n[1]));
        }
        Edges.refused("others(1, 40)", Edges.NONE, Edges::full, x -> x.others(1, 40));
        Edges.refused("others(0, 0)", Edges.NONE, Edges::full, x -> x.others(0, 0));
        Edges.refused("others(0, 0)", Edges.NONE, ProofsEdgesTest::nothing, x -> x.others(0, 0));
    }

    // ---- promise 27

    @Edges.Says("27: MARKS from that of a KEY up to the ROOT in a VERSION: the LEVEL of the least NODE over it that is not BARE (D and 1: none); the ROW: they.")
    private static void path() {
        for (int d = 3; d <= 8; d++) {
            AbsenceTree x = Edges.mapped("" + d);
            int last = (1 << d) - 1;
            long[] due = new long[d + 1];
            for (int level = 0; level <= d; level++) {
                due[level] = Edges.bareMark(level);
            }
            Edges.is("path(0, last) of nothing", x.path(0, last), d + 1);
            Edges.row(x, due);
            x.puts(last, 1);
            Edges.is("path(1, 0)", x.path(1, 0), d);
            Edges.is("path(1, last)", x.path(1, last), 0);
            Edges.is("path(1, last less 1)", x.path(1, last - 1), 1);
            Edges.is("count(7)", x.count(7), d + 1);
        }
        AbsenceTree y = Edges.mapped(WHOLE);
        Edges.is("path(0, 7)", y.path(0, 7), 0);
        Edges.row(y, Edges.leaf(7, 8), Edges.markOf(6, 7, 8), Edges.markOf(4, 5, 6, 7, 8), Edges.markOf(0, 1, 2, 3, 4, 5, 6, 7, 8));
    }

    @Edges.Says("27: NONE: none such.")
    private static void pathNone() {
        int[][] none = {{14, 8}, {14, -1}, {14, Edges.LEAST}, {14, Edges.GREATEST}, {2, 0}, {15, 0}};
        for (int[] n : none) {
            Edges.refused("path(" + n[0] + ", " + n[1] + ")", Edges.NONE, x -> x.path(n[0], n[1]));
        }
    }

    // ---- promise 28

    private static void stretch(AbsenceTree x, int from, int to, long... due) {
        Edges.is("stretch(0, " + from + ", " + to + ")", x.stretch(0, from, to), due.length - 1);
        Edges.row(x, due);
    }

    @Edges.Says("28: The fewest NODES that are over KEYS from one to another one and over no others: how many; the ROW: of each, by KEYS, 1000 times its LEVEL, and its number")
    private static void stretchNodes() {
        AbsenceTree x = Edges.mapped("8");
        stretch(x, 0, 255, 8000, 0);
        stretch(x, 0, 0, 0, 0);
        stretch(x, 255, 255, 255, 0);
        stretch(x, 0, 1, 1000, 0);
        stretch(x, 1, 2, 1, 2, 0);
        stretch(x, 127, 128, 127, 128, 0);
        stretch(x, 0, 127, 7000, 0);
        stretch(x, 128, 255, 7001, 0);
        stretch(x, 1, 255, 1, 1001, 2001, 3001, 4001, 5001, 6001, 7001, 0);
        stretch(x, 0, 254, 7000, 6002, 5006, 4014, 3030, 2062, 1126, 254, 0);
        stretch(x, 1, 254, 1, 1001, 2001, 3001, 4001, 5001, 6001, 6002, 5006, 4014, 3030, 2062, 1126, 254, 0);
        stretch(x, 64, 127, 6001, 0);
        stretch(x, 4, 7, 2001, 0);
        stretch(x, 4, 8, 2001, 8, 0);
        stretch(x, 3, 7, 3, 2001, 0);
        stretch(x, 2, 5, 1001, 1002, 0);
        AbsenceTree y = Edges.mapped("3");
        stretch(y, 0, 7, 3000, 0);
        stretch(y, 1, 7, 1, 1001, 2001, 0);
        stretch(y, 0, 6, 2000, 1002, 6, 0);
        stretch(y, 1, 6, 1, 1001, 1002, 6, 0);
    }

    @Edges.Says("28: how many SIBLINGS of those NODES, and of NODES above them, are not BARE and over none of these KEYS, each counted once")
    private static void stretchBeside() {
        AbsenceTree x = Edges.mapped(WHOLE);
        stretch(x, 0, 7, 3000, 0);
        stretch(x, 0, 0, 0, 3);
        stretch(x, 7, 7, 7, 3);
        stretch(x, 0, 1, 1000, 2);
        stretch(x, 0, 3, 2000, 1);
        stretch(x, 1, 6, 1, 1001, 1002, 6, 2);
        stretch(x, 2, 5, 1001, 1002, 2);
        stretch(x, 3, 4, 3, 4, 4);
        stretch(x, 1, 2, 1, 2, 3);
        // a SIBLING that is over a KEY of the stretch, or BARE, is not counted
        AbsenceTree y = Edges.mapped("3,3=1,4=1");
        stretch(y, 3, 4, 3, 4, 0);
        stretch(y, 0, 3, 2000, 1);
        stretch(y, 0, 2, 1000, 2, 2);
        stretch(y, 5, 6, 5, 6, 2);
        AbsenceTree z = Edges.mapped("8,0=1,255=1");
        stretch(z, 1, 254, 1, 1001, 2001, 3001, 4001, 5001, 6001, 6002, 5006, 4014, 3030, 2062, 1126, 254, 2);
    }

    @Edges.Says("28: NONE: no such VERSION, KEYS, the second one less.")
    private static void stretchNone() {
        int[][] none = {{14, 3, 2}, {14, 7, 0}, {14, 0, 8}, {14, -1, 7}, {14, 8, 8}, {14, 0, Edges.GREATEST}, {14, Edges.LEAST, 0}, {14, 0, -1},
            {2, 0, 7}, {15, 0, 7}, {14, Edges.GREATEST, Edges.GREATEST}, {14, 0, Edges.LEAST}};
        for (int[] n : none) {
            Edges.refused("stretch(" + n[0] + ", " + n[1] + ", " + n[2] + ")", Edges.NONE, x -> x.stretch(n[0], n[1], n[2]));
        }
    }

    // ---- promise 29

    @Edges.Says("29: The LEVEL of the least NODE that has two KEYS (0: they are one); the ROW: how many KEYS it has that have a VALUE in a VERSION, its first KEY.")
    private static void forks() {
        AbsenceTree x = Edges.full();
        int[][] asked = {{0, 0, 0, 1, 0}, {255, 255, 0, 0, 255}, {0, 1, 1, 2, 0}, {1, 2, 2, 4, 0}, {38, 40, 4, 8, 32}, {40, 47, 3, 0, 40},
            {127, 128, 8, 40, 0}, {0, 255, 8, 40, 0}, {254, 255, 1, 0, 254}, {63, 0, 6, 40, 0}, {128, 255, 7, 0, 128}, {39, 39, 0, 1, 39}};
        for (int[] a : asked) {
            Edges.is("forks(1, " + a[0] + ", " + a[1] + ")", x.forks(1, a[0], a[1]), a[2]);
            Edges.row(x, a[3], a[4]);
            Edges.is("forks(1, " + a[1] + ", " + a[0] + ")", x.forks(1, a[1], a[0]), a[2]);
            Edges.row(x, a[3], a[4]);
        }
        Edges.is("forks(0, 0, 255) of nothing", x.forks(0, 0, 255), 8);
        Edges.row(x, 0, 0);
        AbsenceTree y = Edges.mapped("3");
        Edges.is("forks(0, 0, 7)", y.forks(0, 0, 7), 3);
    }

    @Edges.Says("29: NONE: none such.")
    private static void forksNone() {
        int[][] none = {{14, 0, 8}, {14, 8, 0}, {14, 8, 8}, {14, -1, 0}, {14, 0, -1}, {14, -1, -1}, {2, 0, 1}, {15, 0, 1}, {14, Edges.LEAST, 0},
            {14, 0, Edges.GREATEST}};
        for (int[] n : none) {
            Edges.refused("forks(" + n[0] + ", " + n[1] + ", " + n[2] + ")", Edges.NONE, x -> x.forks(n[0], n[1], n[2]));
        }
    }

    public static void main(String[] args) throws IllegalAccessException {
        Edges.runAll(ProofsEdgesTest.class);
    }
}
