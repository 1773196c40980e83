/** The edges that promises 1 to 6 name: texts. */
public final class TextsEdgesTest {
    /** Nine KEYS with VALUES, each behind a comma, of 72 signs. */
    private static final String NINE = ",103=103,104=104,105=105,106=106,107=107,108=108,109=109,110=110,111=111";

    private static AbsenceTree signs(int n) {
        return Edges.write(Edges.worn(), "5,31=9" + "a".repeat(n - 6));
    }

    /** A text that goes wrong for map(), batch(), told(), day() or together(): where, and what it must leave. */
    private static void mapFault(String text, int place) {
        Edges.refusedText("map()", text, -1 - place, AbsenceTree::map);
    }

    private static void batchFault(String text, int place) {
        Edges.refusedText("batch()", text, -1 - place, AbsenceTree::batch);
    }

    private static void mapOf(String text, int full) {
        Edges.is("length of " + text + " is at most 80", Math.max(text.length(), 80), 80);
        Edges.is("map() of " + text, Edges.write(Edges.worn(), text).map(), full);
    }

    private static AbsenceTree batchOf(AbsenceTree x, String text, int version) {
        Edges.is("batch() of " + text, Edges.write(x, text).batch(), version);
        Edges.is("count(8)", x.count(8), 0);
        return x;
    }

    // ---- promise 1

    @Edges.Says("1: DEPTH 4, VERSION 0, no VALUES.")
    private static void newObject() {
        AbsenceTree other = Edges.worn();
        AbsenceTree x = new AbsenceTree();
        int[] due = {4, 16, 0, 1, 0, 0, 0, 0, 0};
        for (int what = 0; what < due.length; what++) {
            Edges.is("count(" + what + ")", x.count(what), due[what]);
        }
        Edges.is("row(0)", Edges.answer(x, y -> y.row(0)), Edges.THREW);
        Edges.is("get(0, 15)", x.get(0, 15), 0);
        Edges.is("get(0, 16)", Edges.answer(x, y -> y.get(0, 16)), Edges.THREW);
        Edges.is("get(1, 0)", Edges.answer(x, y -> y.get(1, 0)), Edges.THREW);
        Edges.no("again(0)", x.again(0));
        Edges.no("again(1)", x.again(1));
        Edges.is("undo()", x.undo(), Edges.NONE);
        x.puts(3, 4);
        Edges.alike("what a new object does to another one", other, Edges.worn(), true, true);
    }

    // ---- promise 2

    @Edges.Says("2: Four signs come behind THE TEXT, of v the highest byte first")
    private static void signOrder() {
        AbsenceTree x = new AbsenceTree();
        x.sign('3' << 24 | ',' << 16 | '7' << 8 | '=');
        x.sign('9' << 24 | '8' << 16 | '7' << 8);
        x.end(7);
        Edges.is("map()", x.map(), 1);
        Edges.is("get(0, 7)", x.get(0, 7), 987);
        AbsenceTree y = new AbsenceTree();
        y.sign('x' << 24 | '5' << 16 | 'x' << 8 | 'x');
        y.end(0);
        y.sign('5' << 24);
        y.end(1);
        Edges.is("map() of a sign in the place of a taken one", y.map(), 0);
        Edges.is("count(0)", y.count(0), 5);
    }

    @Edges.Says("2: of v the highest byte first (a byte is a sign 0 to 255)")
    private static void signOfEachByte() {
        for (int b : new int[] {0, 1, 127, 128, 0x33 | 128, 254, 255}) {
            for (int place = 0; place < 4; place++) {
                AbsenceTree x = new AbsenceTree();
                int due = place == 0 ? 0 : place == 1 ? 1 : place == 2 ? 2 : 3;
                x.sign(0x332C313D & ~(255 << (24 - 8 * place)) | b << (24 - 8 * place));
                Edges.is("map() with " + b + " at " + place, x.map(), -1 - due);
            }
        }
        AbsenceTree y = new AbsenceTree();
        Edges.is("sign(-1)", y.sign(-1), 4);
        Edges.is("sign(least)", y.sign(Edges.LEAST), 8);
        Edges.is("sign(greatest)", y.sign(Edges.GREATEST), 12);
        Edges.is("sign(0)", y.sign(0), 16);
    }

    @Edges.Says("2: how many it has. Refused: there would be more than 80.")
    private static void signUpTo80() {
        AbsenceTree x = new AbsenceTree();
        for (int n = 4; n <= 80; n += 4) {
            Edges.is("sign()", x.sign(n), n);
        }
        Edges.is("sign() behind 80", x.sign(0), Edges.NONE);
        for (int n = 73; n <= 80; n++) {
            int have = n;
            if (n <= 76) {
                Edges.is("sign() behind " + n, signs(n).sign(0), n + 4);
            } else {
                Edges.refused("sign() behind " + n, Edges.NONE, () -> signs(have), y -> y.sign(0x332C2C2C));
                Edges.is("signs behind it", signs(n).count(8), n);
            }
        }
    }

    @Edges.Says("2: Refused: there would be more than 80. (and change nothing)")
    private static void signRefusedLeavesTheText() {
        AbsenceTree x = Edges.write(new AbsenceTree(), "5,31=9" + "a".repeat(72));
        Edges.is("count(8)", x.count(8), 78);
        Edges.is("sign()", x.sign(0x33333333), Edges.NONE);
        Edges.is("count(8)", x.count(8), 78);
        Edges.yes("end(6)", x.end(6));
        Edges.is("map()", x.map(), 1);
        Edges.is("get(0, 31)", x.get(0, 31), 9);
    }

    // ---- promise 3

    @Edges.Says("3: THE TEXT has its first n signs alone: true")
    private static void endOfTheFirst() {
        String text = "5,31=9";
        for (int n = 0; n <= 6; n++) {
            AbsenceTree x = Edges.write(new AbsenceTree(), text);
            Edges.yes("end(" + n + ")", x.end(n));
            Edges.is("count(8)", x.count(8), n);
            Edges.is("map() of " + n, x.map(), n == 1 ? 0 : n == 6 ? 1 : -1 - n);
        }
        Edges.yes("end(0) of none", new AbsenceTree().end(0));
        Edges.yes("end(80) of 80", signs(80).end(80));
        Edges.yes("end(79) of 80", signs(80).end(79));
    }

    @Edges.Says("3: false if it has not so many, or n is below 0")
    private static void endRefused() {
        Edges.refused("end(6) of 5", 0, x -> Edges.bit(x.end(6)));
        Edges.refused("end(-1)", 0, x -> Edges.bit(x.end(-1)));
        Edges.refused("end(least)", 0, x -> Edges.bit(x.end(Edges.LEAST)));
        Edges.refused("end(greatest)", 0, x -> Edges.bit(x.end(Edges.GREATEST)));
        Edges.refused("end(81) of 80", 0, () -> signs(80), x -> Edges.bit(x.end(81)));
        Edges.refused("end(1) of none", 0, AbsenceTree::new, x -> Edges.bit(x.end(1)));
        AbsenceTree y = Edges.write(new AbsenceTree(), "5,31=9");
        y.end(1);
        Edges.no("end() of what is gone", y.end(2));
        Edges.is("count(8)", y.count(8), 1);
    }

    // ---- promise 4

    @Edges.Says("4: THE TEXT is A MAP, all anew (VERSION 0; IN HAND is nothing)")
    private static void mapAnew() {
        AbsenceTree x = Edges.write(Edges.worn(), "4,15=2");
        Edges.is("map()", x.map(), 1);
        int[] due = {4, 16, 0, 1, 1, 2, 0, 3, 0};
        for (int what = 0; what < due.length; what++) {
            Edges.is("count(" + what + ")", x.count(what), due[what]);
        }
        Edges.is("hand()", x.hand(), -2);
        for (int key = 0; key < 16; key++) {
            Edges.is("get(0, " + key + ")", x.get(0, key), key == 15 ? 2 : 0);
        }
        x.root(0);
        Edges.row(x, Edges.markOf(0, 0, 0, 0, 0, 0, 0, 0, 0, 0, 0, 0, 0, 0, 0, 0, 2));
        Edges.is("map() of a lesser DEPTH", Edges.write(x, "3").map(), 0);
        Edges.is("get(0, 8)", Edges.answer(x, y -> y.get(0, 8)), Edges.THREW);
        Edges.is("map() of a greater one", Edges.write(x, "4").map(), 0);
        Edges.is("get(0, 15)", x.get(0, 15), 0);
    }

    @Edges.Says("4: a digit 3 .. 8 (D)")
    private static void mapDigit() {
        for (int sign = 0; sign < 256; sign++) {
            AbsenceTree x = Edges.write(new AbsenceTree(), Character.toString((char) sign));
            Edges.is("map() of sign " + sign, x.map(), sign >= '3' && sign <= '8' ? 0 : -1);
        }
        mapFault("2", 0);
        mapFault("9", 0);
        mapFault("2,1=1", 0);
        mapFault("9,1=1", 0);
        mapFault("33", 1);
        mapFault(",1=1", 0);
    }

    @Edges.Says("4: any many times a comma, a KEY (one to three digits, as many as there are), =, a VALUE (likewise)")
    private static void mapParts() {
        mapOf("3", 0);
        mapOf("3,7=1", 1);
        mapOf("3,07=01", 1);
        mapOf("3,007=001", 1);
        mapOf("8,255=999,254=998,0=1", 3);
        mapOf("3,0=1,1=2,2=3,3=4,4=5,5=6,6=7,7=8", 8);
        String[] texts = {"3;1=1", "3,1:1", "3,1=1;2=2", "3, 1=1", "3,1 =1", "3,1=1 ", "3,-1=1", "3,1=-1", "3,1=+1", "3,/=1", "3,:=1", "3,1=/",
            "3,1=:", "3,1==1", "3,,1=1", "3,1=1,,2=2", "3,=1", "3,1=1=1"};
        int[] places = {1, 3, 5, 2, 3, 5, 2, 4, 4, 2, 2, 4, 4, 4, 2, 6, 2, 5};
        for (int i = 0; i < texts.length; i++) {
            mapFault(texts[i], places[i]);
        }
    }

    @Edges.Says("4: how many KEYS have a VALUE (a text of 80 signs)")
    private static void mapOf80() {
        // the most KEYS that 80 signs can tell are 17, so that the comma of a 41st can't come about
        StringBuilder most = new StringBuilder("8");
        for (int key = 0; key < 17; key++) {
            most.append(',').append(key).append("=1");
        }
        mapOf(most.toString(), 17);
        mapOf(most + "99", 17);
        Edges.is("get(0, 16)", Edges.mapped(most + "99").get(0, 16), 199);
        mapOf("8" + NINE + ",10=999", 10);
        mapFault("8" + NINE + ",10=99,", 80);
        mapFault("8" + NINE + ",10=99x", 79);
        mapFault("8" + NINE + ",1=9999", 79);
        mapFault("8" + NINE + ",10=000", 79);
        mapFault("8" + NINE + ",0010=1", 77);
        mapFault("8" + NINE + ",256=99", 76);
        mapFault("8" + NINE + ",111=99", 76);
        mapFault("3" + NINE + ",10=999", 4);
    }

    @Edges.Says("4: the last digit of a KEY that there is not")
    private static void mapNoKey() {
        for (int d = 3; d <= 8; d++) {
            int keys = 1 << d;
            mapOf(d + "," + (keys - 1) + "=1", 1);
            String text = d + "," + keys;
            mapFault(text + "=1", text.length() - 1);
            mapFault(text, text.length() - 1);
            mapFault(text + "x", text.length() - 1);
        }
        mapFault("3,008=1", 4);
        mapFault("8,999=1", 4);
        mapFault("3,10=1", 3);
        mapFault("3,1=1,8=1", 6);
    }

    @Edges.Says("4: the last digit of a KEY that .. was told")
    private static void mapToldKey() {
        mapFault("3,1=1,1=1", 6);
        mapFault("3,1=1,1", 6);
        mapFault("3,1=1,01=2", 7);
        mapFault("3,001=1,1=2", 8);
        mapFault("3,0=1,2=2,000=3", 12);
        mapFault("8,255=1,255=2", 10);
        mapFault("3,1=1,2=2,3=3,4=4,5=5,6=6,7=7,0=8,1=9", 34);
        // of a MAP ahead a KEY is not told any more
        AbsenceTree x = Edges.mapped("3,1=1");
        Edges.is("map() once more", Edges.write(x, "3,1=2").map(), 1);
    }

    @Edges.Says("4: a fourth digit, ahead of these")
    private static void mapFourthDigit() {
        mapFault("3,0001=1", 5);
        mapFault("3,9999=1", 5);
        mapFault("3,0008=1", 5);
        mapFault("3,1=1,0001=1", 9);
        mapFault("3,1=1,9991=1", 9);
        mapFault("3,00000=1", 5);
        mapFault("3,1=0001", 7);
        mapFault("3,1=0000", 7);
        mapFault("3,1=9999", 7);
        mapFault("3,1=1000", 7);
        mapFault("3,000/=1", 5);
    }

    @Edges.Says("4: the last digit of a VALUE of 0")
    private static void mapNoValue() {
        mapFault("3,1=0", 4);
        mapFault("3,1=00", 5);
        mapFault("3,1=000", 6);
        mapFault("3,1=00x", 5);
        mapFault("3,1=0,8=1", 4);
        mapFault("3,1=1,2=0", 8);
        mapOf("3,1=1", 1);
        mapOf("3,1=01", 1);
        mapOf("3,1=100", 1);
        mapOf("3,1=999", 1);
    }

    @Edges.Says("4: its end, if it ends too early")
    private static void mapEnds() {
        mapFault("", 0);
        mapFault("3,", 2);
        mapFault("3,1", 3);
        mapFault("3,01", 4);
        mapFault("3,001", 5);
        mapFault("3,1=", 4);
        mapFault("3,1=1,", 6);
        mapFault("3,1=1,2", 7);
        mapFault("3,1=1,2=", 8);
    }

    // ---- promise 5

    @Edges.Says("5: THE TEXT is A BATCH (an empty one can't be)")
    private static void batchEmpty() {
        batchFault("", 0);
        Edges.refusedText("batch()", "", -1, AbsenceTree::new, AbsenceTree::batch);
    }

    @Edges.Says("5: KEYS and VALUES as in a MAP (VALUES may be 0), with commas between, without one ahead")
    private static void batchParts() {
        batchOf(Edges.worn(), "3=1", 15);
        batchOf(Edges.worn(), "003=001", 15);
        batchOf(Edges.worn(), "3=999,5=1", 15);
        AbsenceTree x = batchOf(Edges.worn(), "1=0,2=00,6=000", 15);
        Edges.is("count(4)", x.count(4), 2);
        batchFault(",3=1", 0);
        batchFault("3=1,", 4);
        batchFault("3=1,,5=1", 4);
        batchFault("3", 1);
        batchFault("3=", 2);
        batchFault("3=1,5", 5);
        batchFault("3=1,5=", 6);
        batchFault("=1", 0);
        batchFault("3:1", 1);
        batchFault("3=x", 2);
        batchFault("3=-1", 2);
        batchFault("3=1;5=1", 3);
        batchFault("3=1 ", 3);
        batchFault("x", 0);
    }

    @Edges.Says("5: -1 - p: as map() (but for the 41st)")
    private static void batchFaults() {
        batchFault("8=1", 0);
        batchFault("008=1", 2);
        batchFault("8", 0);
        batchFault("3=1,8=1", 4);
        batchFault("3=1,3=1", 4);
        batchFault("3=1,03=1", 5);
        batchFault("0003=1", 3);
        batchFault("9999=1", 3);
        batchFault("3=1,0003=1", 7);
        batchFault("3=0000", 5);
        batchFault("3=1000", 5);
        AbsenceTree x = Edges.mapped("8");
        batchOf(x, "255=1", 1);
        Edges.is("batch() of 256", Edges.write(x, "256=1").batch(), -3);
        // a BATCH told ahead has no KEYS told any more
        batchOf(x, "255=2", 2);
    }

    @Edges.Says("5: all of them become so as one change: the VERSION (a text of 80 signs)")
    private static void batchOf80() {
        AbsenceTree x = Edges.mapped("8");
        Edges.is("signs", ("1=1,2=22" + NINE).length(), 80);
        Edges.is("its end", Edges.write(x, "1=1,22" + NINE + "1,").batch(), -7);
        Edges.is("its end", Edges.write(x, "1=1,2=2" + NINE + ",").batch(), -81);
        Edges.is("another sign", Edges.write(x, "1=1,2=2" + NINE + "x").batch(), -80);
        Edges.is("a fourth digit", Edges.write(x, "1=1,2=2" + NINE + "1").batch(), -80);
        Edges.is("a KEY that was told", Edges.write(x, "1=1" + NINE + ",103=").batch(), -79);
        Edges.is("a KEY that there is not", Edges.write(x, "1=1" + NINE + ",256=").batch(), -79);
        Edges.is("versions()", x.versions(), 1);
        batchOf(x, "1=1,2=22" + NINE, 1);
        Edges.row(x, 22 + 11, 11 * 9);
        Edges.is("versions()", x.versions(), 2);
        Edges.is("count(4)", x.count(4), 11);
        Edges.is("get(1, 111)", x.get(1, 111), 111);
        Edges.is("get(0, 111)", x.get(0, 111), 0);
        Edges.is("all is so", Edges.write(x, "1=1,2=22" + NINE).batch(), -200);
    }

    @Edges.Says("5: the ROW: WORK of its KEYS, WORK of each of them alone together")
    private static void batchWork() {
        Edges.row(batchOf(Edges.mapped("3"), "7=1", 1), 4, 4);
        Edges.row(batchOf(Edges.mapped("8"), "255=1", 1), 9, 9);
        Edges.row(batchOf(Edges.mapped("8"), "0=1,255=1", 1), 17, 18);
        Edges.row(batchOf(Edges.mapped("3"), "0=1,1=1,2=1,3=1,4=1,5=1,6=1,7=1", 1), 15, 32);
        // KEYS that stay as they are count too
        Edges.row(batchOf(Edges.mapped("3,0=1"), "0=1,1=0,7=1", 1), 8, 12);
        Edges.row(batchOf(Edges.mapped("3,0=1"), "0=0", 1), 4, 4);
    }

    @Edges.Says("5: -300: more than 40 would have a VALUE")
    private static void batchOf41() {
        Edges.refusedText("batch()", "40=1", -300, Edges::full, AbsenceTree::batch);
        Edges.refusedText("batch()", "40=1,41=1,0=0", -300, Edges::full, AbsenceTree::batch);
        Edges.refusedText("batch()", "255=999,0=0,1=1,254=1", -300, Edges::full, AbsenceTree::batch);
        Edges.is("count(4)", batchOf(Edges.full(), "40=1,0=0", 2).count(4), 40);
        Edges.is("count(4)", batchOf(Edges.full(), "0=0,40=1", 2).count(4), 40);
        Edges.is("count(4)", batchOf(Edges.full(), "0=9", 2).count(4), 40);
        AbsenceTree x = Edges.full();
        x.puts(39, 0);
        batchOf(x, "200=1", 3);
        Edges.is("count(4)", x.count(4), 40);
        Edges.refusedText("batch()", "200=1,201=1", -300, () -> {
            AbsenceTree y = Edges.full();
            y.puts(39, 0);
            return y;
        }, AbsenceTree::batch);
        // a fault comes ahead
        Edges.refusedText("batch()", "40=1,", -6, Edges::full, AbsenceTree::batch);
    }

    @Edges.Says("5: -200: all is so already")
    private static void batchAllIsSo() {
        Edges.refusedText("batch()", "1=5", -200, AbsenceTree::batch);
        Edges.refusedText("batch()", "1=5,3=0,6=005", -200, AbsenceTree::batch);
        Edges.refusedText("batch()", "5=000", -200, AbsenceTree::batch);
        Edges.refusedText("batch()", "39=40", -200, Edges::full, AbsenceTree::batch);
        batchOf(Edges.worn(), "1=5,3=1,6=5", 15);
        batchOf(Edges.worn(), "1=4", 15);
    }

    // ---- promise 6

    private static void sheetValue(int kind, int f, int value) {
        AbsenceTree x = Edges.mapped("3,2=500");
        Edges.is("sheet(2, " + kind + ", 1, " + f + ", 0)", x.sheet(2, kind, 1, f, 0), 1);
        Edges.is("VALUE of " + f + " of kind " + kind, x.get(1, 2), value);
    }

    @Edges.Says("6: bytes (kind 0) .. the lowest bits, with their sign; put to 0 .. 999")
    private static void sheetBytes() {
        int[] entries = {0, 1, 126, 127, 128, 129, 255, 256, 257, 383, 384, -1, -128, -129, -255, -256, Edges.LEAST, Edges.GREATEST, 0x7F00 + 5};
        int[] values = {0, 1, 126, 127, 0, 0, 0, 0, 1, 127, 0, 0, 0, 127, 1, 0, 0, 0, 5};
        for (int i = 0; i < entries.length; i++) {
            sheetValue(0, entries[i], values[i]);
        }
    }

    @Edges.Says("6: shorts (1) .. the lowest bits, with their sign; put to 0 .. 999")
    private static void sheetShorts() {
        int[] entries = {0, 1, 998, 999, 1000, 32767, 32768, 65535, 65536, 65537, 66535, 66536, -1, -32768, -32769, -65535, Edges.LEAST, Edges.GREATEST};
        int[] values = {0, 1, 998, 999, 999, 999, 0, 0, 0, 1, 999, 999, 0, 0, 999, 1, 0, 0};
        for (int i = 0; i < entries.length; i++) {
            sheetValue(1, entries[i], values[i]);
        }
    }

    @Edges.Says("6: ints (2) .. put to 0 .. 999")
    private static void sheetInts() {
        int[] entries = {0, 1, 998, 999, 1000, 65537, Edges.GREATEST, -1, -999, Edges.LEAST};
        int[] values = {0, 1, 998, 999, 999, 999, 999, 0, 0, 0};
        for (int i = 0; i < entries.length; i++) {
            sheetValue(2, entries[i], values[i]);
        }
    }

    @Edges.Says("6: of n entries f, f + step, .. (as ints")
    private static void sheetGoesRound() {
        AbsenceTree x = Edges.mapped("3");
        Edges.is("sheet", x.sheet(0, 2, 3, Edges.GREATEST, 1), 1);
        Edges.is("get(1, 0)", x.get(1, 0), 999);
        Edges.is("get(1, 1)", x.get(1, 1), 0);
        Edges.is("get(1, 2)", x.get(1, 2), 0);
        Edges.is("sheet", x.sheet(0, 2, 3, -2, Edges.LEAST), 2);
        Edges.is("get(2, 0)", x.get(2, 0), 0);
        Edges.is("get(2, 1)", x.get(2, 1), 999);
        Edges.is("get(2, 2)", x.get(2, 2), 0);
        Edges.is("sheet", x.sheet(0, 2, 4, 1, 1 << 30), 3);
        Edges.is("get(3, 1)", x.get(3, 1), 999);
        Edges.is("get(3, 2)", x.get(3, 2), 0);
        Edges.is("get(3, 3)", x.get(3, 3), 0);
        Edges.is("sheet down", x.sheet(0, 2, 8, 7, -1), 4);
        for (int key = 0; key < 8; key++) {
            Edges.is("get(4, " + key + ")", x.get(4, key), 7 - key);
        }
        Edges.is("sheet of bytes", x.sheet(0, 0, 4, 126, 1), 5);
        Edges.is("get(5, 1)", x.get(5, 1), 127);
        Edges.is("get(5, 2)", x.get(5, 2), 0);
        Edges.is("sheet of shorts", x.sheet(0, 1, 2, 65535, 6), 6);
        Edges.is("get(6, 0)", x.get(6, 0), 0);
        Edges.is("get(6, 1)", x.get(6, 1), 5);
    }

    @Edges.Says("6: VALUES of KEYS from a KEY on become as a sheet tells, one behind another .. as one change: the VERSION")
    private static void sheetEnds() {
        AbsenceTree x = Edges.mapped("3,0=9,7=9");
        Edges.is("sheet of all KEYS", x.sheet(0, 2, 8, 1, 1), 1);
        Edges.is("sum", x.sum(1, 0, 7), 36);
        Edges.is("sheet of the last KEY", x.sheet(7, 2, 1, 1, 1), 2);
        Edges.is("get(2, 7)", x.get(2, 7), 1);
        Edges.is("get(2, 6)", x.get(2, 6), 7);
        Edges.is("sheet between", x.sheet(2, 2, 3, 0, 0), 3);
        Edges.is("get(3, 1)", x.get(3, 1), 2);
        Edges.is("get(3, 2)", x.get(3, 2), 0);
        Edges.is("get(3, 4)", x.get(3, 4), 0);
        Edges.is("get(3, 5)", x.get(3, 5), 6);
        Edges.is("sheet of 40", Edges.mapped("8").sheet(216, 2, 40, 1, 1), 1);
        Edges.is("versions()", x.versions(), 4);
        x.sheet(0, 2, 1, 77, 0);
        Edges.row(x, 0, 3);
    }

    @Edges.Says("6: or a missing one (3) .. -3: missing (whatever n is)")
    private static void sheetMissing() {
        for (int n : new int[] {-1, 0, 1, 8, 9, 40, Edges.LEAST}) {
            Edges.refused("sheet(0, 3, " + n + ", 1, 1)", -3, x -> x.sheet(0, 3, n, 1, 1));
            Edges.refused("sheet(7, 3, " + n + ", 1, 1)", -3, x -> x.sheet(7, 3, n, 1, 1));
        }
    }

    @Edges.Says("6: -2: n below 0")
    private static void sheetBelow0() {
        for (int kind = 0; kind <= 2; kind++) {
            int k = kind;
            Edges.refused("sheet(0, " + kind + ", -1, 1, 1)", -2, x -> x.sheet(0, k, -1, 1, 1));
            Edges.refused("sheet(7, " + kind + ", least, 1, 1)", -2, x -> x.sheet(7, k, Edges.LEAST, 1, 1));
        }
        Edges.refused("sheet(0, 2, 0, 1, 1)", -6, x -> x.sheet(0, 2, 0, 1, 1));
    }

    private static void sheetNoKey(int key, int n, int entry) {
        AbsenceTree x = Edges.worn();
        Edges.is("sheet(" + key + ", 2, " + n + ", 1, 1)", x.sheet(key, 2, n, 1, 1), -4);
        Edges.row(x, entry);
        Edges.alike("sheet of no such KEY", x, Edges.worn(), false, true);
    }

    @Edges.Says("6: -4: there is no such KEY for an entry (the ROW: which entry, the first such one)")
    private static void sheetNoSuchKey() {
        sheetNoKey(0, 9, 8);
        sheetNoKey(0, 40, 8);
        sheetNoKey(7, 2, 1);
        sheetNoKey(7, 40, 1);
        sheetNoKey(1, 8, 7);
        Edges.is("sheet of the last ones", Edges.worn().sheet(1, 2, 7, 1, 1), 15);
        AbsenceTree x = Edges.full();
        Edges.is("where 41 would have one", x.sheet(255, 2, 2, 1, 0), -4);
        Edges.row(x, 1);
        Edges.is("where all is so", x.sheet(255, 2, 2, 0, 0), -4);
        Edges.is("sheet(217, 2, 40, 0, 0)", x.sheet(217, 2, 40, 0, 0), -4);
        Edges.row(x, 39);
        Edges.is("sheet(216, 2, 40, 0, 0)", x.sheet(216, 2, 40, 0, 0), -6);
        Edges.is("count(2)", x.count(2), 1);
    }

    @Edges.Says("6: -5: more than 40 would have a VALUE")
    private static void sheetOf41() {
        Edges.refused("sheet(40, 2, 1, 1, 0)", -5, Edges::full, x -> x.sheet(40, 2, 1, 1, 0));
        Edges.refused("sheet(1, 2, 40, 1, 0)", -5, Edges::full, x -> x.sheet(1, 2, 40, 1, 0));
        Edges.refused("sheet(39, 2, 3, 0, 1)", -5, Edges::full, x -> x.sheet(39, 2, 3, 0, 1));
        AbsenceTree x = Edges.full();
        Edges.is("sheet(39, 2, 2, 0, 1)", x.sheet(39, 2, 2, 0, 1), 2);
        Edges.is("count(4)", x.count(4), 40);
        Edges.is("sheet(40, 2, 2, 1, -1)", x.sheet(40, 2, 2, 1, -1), -6);
        Edges.is("sheet(0, 2, 40, 1, 1)", x.sheet(0, 2, 40, 1, 1), -5);
        Edges.is("sheet(0, 2, 39, 9, 0)", x.sheet(0, 2, 39, 9, 0), 3);
        Edges.is("count(4)", x.count(4), 40);
    }

    @Edges.Says("6: -6: all is so already")
    private static void sheetAllIsSo() {
        Edges.refused("sheet of no entries", -6, x -> x.sheet(7, 2, 0, 1, 1));
        Edges.refused("sheet of VALUES that are so", -6, x -> x.sheet(1, 2, 2, 5, 2));
        Edges.refused("sheet of entries put to 0", -6, x -> x.sheet(3, 2, 3, -5, -5));
        Edges.refused("sheet of bytes that are so", -6, x -> x.sheet(6, 0, 1, 256 + 5, 0));
        Edges.refused("sheet of 40 that are so", -6, Edges::full, x -> x.sheet(0, 2, 40, 1, 1));
        Edges.is("sheet of an unlike one", Edges.worn().sheet(1, 2, 2, 5, 3), 15);
    }

    @Edges.Says("6: NONE: no such KEY, another kind, n above 40 (these first).")
    private static void sheetNone() {
        int[][] none = {{8, 2, 1}, {-1, 2, 1}, {8, 3, 1}, {8, 2, -1}, {0, 4, 1}, {0, -1, 1}, {0, 4, -1}, {0, Edges.LEAST, 1},
            {0, Edges.GREATEST, 1}, {0, 2, 41}, {0, 3, 41}, {7, 0, 41}, {0, 1, Edges.GREATEST}};
        for (int[] n : none) {
            Edges.refused("sheet(" + n[0] + ", " + n[1] + ", " + n[2] + ", 1, 1)", Edges.NONE, x -> x.sheet(n[0], n[1], n[2], 1, 1));
        }
        Edges.refused("sheet(255, 2, 41, 1, 1)", Edges.NONE, Edges::full, x -> x.sheet(255, 2, 41, 1, 1));
        Edges.refused("sheet(256, 2, 1, 1, 1)", Edges.NONE, Edges::full, x -> x.sheet(256, 2, 1, 1, 1));
    }

    public static void main(String[] args) throws IllegalAccessException {
        Edges.runAll(TextsEdgesTest.class);
    }
}
