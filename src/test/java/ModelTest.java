import java.util.Map;
import java.util.NoSuchElementException;
import java.util.Random;
import java.util.TreeMap;
import java.util.function.LongSupplier;

/** Drawn runs of calls (always the same ones), each answer and ROW held against the Model's. */
public final class ModelTest {
    private static final int RUNS = 4000;
    private static final int MOST_CALLS = 512;
    private static final long THREW = Long.MIN_VALUE;
    private static final int KINDS = 54;

    /** Answers that must come about at least once: a run of the test that misses one would prove too little. */
    private static final String[] MUST_COME = {
        "sign -1", "sign 80", "end 0", "end 1", "map -1", "batch -1", "batch -200", "batch -300", "sheet -1", "sheet -2",
        "sheet -3", "sheet -4", "sheet -5", "sheet -6", "level -1", "level 0", "level 40", "holes -1", "holes 0",
        "middle -1", "middle -2", "get throws", "row throws", "root -1", "root 40", "node -1", "node 0", "node 1", "nodes -1",
        "key -1", "near -1", "sum -1", "with -1", "with 0", "proof -1", "alters 0", "alters 1", "told -1", "told 8", "hand -2",
        "accepts -1", "accepts -2", "accepts 0", "accepts 1", "accepted -2", "accepted 0", "accepted 2", "bare -1", "bare -2",
        "bare 8", "together -200", "together -1", "others -1", "others 0", "others 1", "path -1", "path 9", "stretch -1",
        "stretch 1", "stretch 10", "forks -1", "forks 0", "forks 8", "shared -1", "differ -1", "looks -1", "looks 1",
        "history -1", "hot -2", "would -1", "would 41", "against -1", "against 0", "against 1", "versions 12", "since -1",
        "since -2", "puts -1", "puts -2", "puts -5", "moves -1", "moves -2", "moves -3", "flips -1", "flips -2", "swaps -1",
        "swaps -2", "back -1", "back -2", "joins -1", "joins -2", "joins -4", "joins -5", "clears -1", "clears -2", "day -1",
        "day 0", "undo -1", "years -1", "years 40", "keep 0", "keep 1", "again 0", "again 1", "count -1",
    };

    private static int wrong = 0;
    private static final Map<String, Integer> SEEN = new TreeMap<>();

    private final AbsenceTree x = new AbsenceTree();
    private final Model m = new Model();
    private final Random random;
    private final StringBuilder story = new StringBuilder();
    private int calls = 0;
    private boolean broken = false;

    private ModelTest(long seed) {
        random = new Random(seed);
    }

    public static void main(String[] args) {
        for (int seed = 1; seed <= RUNS && wrong < 5; seed++) {
            new ModelTest(seed).run(seed);
        }
        for (String answer : MUST_COME) {
            if (!SEEN.containsKey(answer)) {
                wrong++;
                System.out.println("never came: " + answer);
            }
        }
        System.out.println(wrong == 0 ? "ModelTest: all answers are as due" : "ModelTest: " + wrong + " wrong");
        if (wrong != 0) {
            System.exit(1);
        }
    }

    private void run(int seed) {
        // each run dwells on a few kinds of calls, so that long rows of changes come about too
        int dwell = random.nextInt(4);
        if (dwell > 1) {
            fill();
        }
        while (calls < MOST_CALLS - 120 && !broken) {
            int kind = pickKind(dwell);
            step(kind);
            compareRow();
            if (random.nextInt(6) == 0) {
                compareCounts();
            }
        }
        if (broken) {
            wrong++;
            System.out.println("seed " + seed + ":\n" + story);
        }
    }

    /** A map that is about full, and perhaps another one beside it that came of the same. */
    private void fill() {
        write(Integer.toString(3 + random.nextInt(6)));
        same("map()", x::map, m::map);
        int size = Math.min(m.count(1), 40 - random.nextInt(4) / 2);
        int from = random.nextInt(m.count(1) - size + 1);
        fillFrom(from, size);
        if (random.nextBoolean()) {
            same("back(0)", () -> x.back(0), () -> m.back(0));
            fillFrom(random.nextInt(m.count(1) - size + 1), size);
        }
    }

    private void fillFrom(int from, int size) {
        int f = random.nextInt(3) + 1;
        int step = random.nextInt(4);
        same("sheet(" + from + ", 2, " + size + ", " + f + ", " + step + ")", () -> x.sheet(from, 2, size, f, step), () -> m.sheet(from, 2, size, f, step));
    }

    private int pickKind(int dwell) {
        int roll = random.nextInt(10);
        if (roll < 2) {
            return 38 + random.nextInt(12);
        }
        if (dwell == 1 && roll < 5) {
            return random.nextInt(6);
        }
        if (dwell == 2 && roll < 5) {
            return 16 + random.nextInt(8);
        }
        // a map that is told anew ends all that a run has built up, so it comes more seldom
        int kind = random.nextInt(KINDS);
        return kind == 2 && random.nextInt(dwell > 1 ? 9 : 3) > 0 ? 38 : kind;
    }

    private void same(String call, LongSupplier mine, LongSupplier due) {
        calls++;
        long got = answer(mine);
        long want = answer(due);
        story.append(call).append(" -> ").append(want == THREW ? "NoSuchElementException" : want).append('\n');
        SEEN.merge(call.substring(0, call.indexOf('(')) + (want == THREW ? " throws" : " " + want), 1, Integer::sum);
        if (got != want) {
            broken = true;
            story.append("   but answered ").append(got == THREW ? "NoSuchElementException" : got).append('\n');
        }
    }

    private static long answer(LongSupplier call) {
        try {
            return call.getAsLong();
        } catch (NoSuchElementException e) {
            return THREW;
        }
    }

    private void compareRow() {
        int size = m.count(7);
        same("count(7)", () -> x.count(7), () -> size);
        boolean whole = size <= 16 || random.nextInt(4) == 0;
        for (int i = 0; i < size; i++) {
            if (whole || i < 3) {
                int at = i;
                same("row(" + i + ")", () -> x.row(at), () -> m.row(at));
            }
        }
        if (random.nextInt(10) == 0) {
            int at = random.nextBoolean() ? size : -1;
            same("row(" + at + ")", () -> x.row(at), () -> m.row(at));
        }
    }

    private void compareCounts() {
        for (int i = -1; i <= 9; i++) {
            int what = i;
            same("count(" + i + ")", () -> x.count(what), () -> m.count(what));
        }
    }

    // ---- what is drawn

    private int odd() {
        int[] odds = {-1, -2, Integer.MIN_VALUE, Integer.MAX_VALUE, 1 << 30, 256, 1000, 41};
        return odds[random.nextInt(odds.length)];
    }

    private int version() {
        if (random.nextInt(12) == 0) {
            return random.nextBoolean() ? odd() : random.nextBoolean() ? m.count(2) + 1 : m.count(2) - m.count(3);
        }
        return m.count(2) - random.nextInt(m.count(3));
    }

    private int key() {
        if (random.nextInt(20) == 0) {
            return random.nextBoolean() ? odd() : m.count(1);
        }
        // few keys come often, so that they meet again
        int keys = m.count(1);
        return random.nextInt(3) > 0 ? random.nextInt(keys) : random.nextInt(8) * (keys / 8) + random.nextInt(2);
    }

    private int value() {
        int roll = random.nextInt(12);
        if (roll == 0) {
            return random.nextBoolean() ? odd() : 1000;
        }
        return roll < 3 ? 0 : roll < 8 ? random.nextInt(4) : random.nextInt(1000);
    }

    private String padded(int number) {
        return random.nextInt(3) == 0 ? String.format("%03d", number) : Integer.toString(number);
    }

    private String pairs(int keys, int most) {
        StringBuilder s = new StringBuilder();
        for (int n = random.nextInt(most + 1); n >= 0; n--) {
            s.append(s.length() > 0 ? "," : "").append(padded(random.nextInt(keys))).append('=');
            s.append(padded(random.nextInt(8) == 0 ? 0 : random.nextInt(random.nextBoolean() ? 6 : 1000)));
        }
        return s.toString();
    }

    private String keysText() {
        StringBuilder s = new StringBuilder();
        for (int n = random.nextInt(7); n >= 0; n--) {
            s.append(s.length() > 0 ? "," : "").append(padded(random.nextInt(m.count(1) + random.nextInt(2))));
        }
        return s.toString();
    }

    private String proofText() {
        StringBuilder s = new StringBuilder();
        if (m.count(6) == 1 && random.nextInt(4) > 0) {
            same("hand()", x::hand, m::hand);
            s.append(padded((int) m.row(0))).append('=').append(padded((int) m.row(1))).append(':').append(padded((int) m.row(2)));
            for (int i = 3; i < m.count(7); i++) {
                s.append(':').append(m.row(i));
            }
            return s.toString();
        }
        s.append(random.nextInt(random.nextInt(6) == 0 ? 400 : 256)).append('=').append(padded(random.nextInt(1000)));
        s.append(':').append(padded(random.nextInt(random.nextInt(6) == 0 ? 400 : 256)));
        for (int n = random.nextInt(10); n > 0; n--) {
            long mark = random.nextInt(5) == 0 ? random.nextLong() >> 29 : random.nextInt(4) == 0 ? random.nextInt(20) : random.nextInt();
            s.append(':').append(random.nextInt(20) == 0 ? "-" : "").append(mark);
        }
        return s.toString();
    }

    private String dayText() {
        StringBuilder s = new StringBuilder();
        for (int n = random.nextInt(8); n > 0; n--) {
            char letter = "ppppmmssccb".charAt(random.nextInt(11));
            if (letter == 'b') {
                s.append(String.format("b%02d", Math.max(0, m.count(2) - random.nextInt(m.count(3))) % 100));
            } else {
                int two = letter == 'p' ? random.nextInt(9) : random.nextInt(m.count(1));
                s.append(letter).append(String.format("%03d%03d", random.nextInt(m.count(1)), two));
            }
        }
        return s.toString();
    }

    private String bent(String text) {
        StringBuilder s = new StringBuilder(text);
        if (random.nextInt(4) == 0) {
            int at = random.nextInt(s.length() + 1);
            char sign = "0123456789,=:-pmscb\0\u00ff x".charAt(random.nextInt(23));
            int way = random.nextInt(4);
            if (way == 0) {
                s.setLength(at);
            } else if (way == 1 || at == s.length()) {
                s.insert(at, sign);
            } else if (way == 2) {
                s.setCharAt(at, sign);
            } else {
                s.deleteCharAt(at);
            }
        }
        if (s.length() > 80) {
            s.setLength(80);
        }
        return s.toString();
    }

    private void write(String text) {
        same("end(0)", () -> x.end(0) ? 1 : 0, () -> m.end(0) ? 1 : 0);
        for (int i = 0; i < text.length(); i += 4) {
            int v = 0;
            for (int j = i; j < i + 4; j++) {
                v = v << 8 | (j < text.length() ? text.charAt(j) : 0);
            }
            int four = v;
            same("sign(" + v + ")", () -> x.sign(four), () -> m.sign(four));
        }
        same("end(" + text.length() + ")", () -> x.end(text.length()) ? 1 : 0, () -> m.end(text.length()) ? 1 : 0);
        story.append("   the text: ").append(text).append('\n');
    }

    // ---- one call

    private void step(int kind) {
        int a = version();
        int b = random.nextInt(4) > 0 ? version() : a;
        int c = version();
        int k = key();
        int l = key();
        int v = value();
        int n = random.nextInt(11) - 1;
        int wide = random.nextInt(3) == 0 ? random.nextInt(45) - 2 : random.nextInt(6);
        int any = random.nextBoolean() ? random.nextInt() : random.nextInt(1200) - 100;
        String ab = "(" + a + ", " + b + ")";
        String ak = "(" + a + ", " + k + ")";
        switch (kind) {
            case 0: for (int times = random.nextInt(60) == 0 ? 21 : 1; times > 0; times--) {
                same("sign(" + any + ")", () -> x.sign(any), () -> m.sign(any));
            }
            break;
            case 1: int cut = random.nextInt(6) == 0 ? odd() : random.nextInt(m.count(8) + 2);
                same("end(" + cut + ")", () -> x.end(cut) ? 1 : 0, () -> m.end(cut) ? 1 : 0); break;
            case 2: int d = random.nextInt(12) == 0 ? random.nextInt(10) : 3 + random.nextInt(6);
                write(bent(d + (random.nextInt(8) == 0 ? "" : "," + pairs(1 << d, 9).replace("=000", "=5").replaceAll("=0(?=,|$)", "=7"))));
                same("map()", x::map, m::map); break;
            case 3: write(bent(pairs(m.count(1), 6))); same("batch()", x::batch, m::batch); break;
            case 4: case 50: int sort = random.nextInt(14) == 0 ? odd() : random.nextInt(20) == 0 ? 3 : random.nextInt(3);
                int size = random.nextInt(20) == 0 ? odd() : wide;
                int stride = random.nextBoolean() ? random.nextInt(5) - 2 : random.nextInt();
                same("sheet(" + k + ", " + sort + ", " + size + ", " + any + ", " + stride + ")",
                    () -> x.sheet(k, sort, size, any, stride), () -> m.sheet(k, sort, size, any, stride)); break;
            case 5: same("level(" + a + ", " + n + ")", () -> x.level(a, n), () -> m.level(a, n)); break;
            case 6: same("holes(" + a + ")", () -> x.holes(a), () -> m.holes(a)); break;
            case 7: same("middle(" + a + ")", () -> x.middle(a), () -> m.middle(a)); break;
            case 8: same("get" + ak, () -> x.get(a, k), () -> m.get(a, k)); break;
            case 9: same("root(" + a + ")", () -> x.root(a), () -> m.root(a)); break;
            case 10: int i = random.nextBoolean() ? k : k >> Math.max(0, Math.min(n, 8));
                same("node(" + a + ", " + n + ", " + i + ")", () -> x.node(a, n, i), () -> m.node(a, n, i)); break;
            case 11: same("nodes(" + a + ")", () -> x.nodes(a), () -> m.nodes(a)); break;
            case 12: same("key(" + a + ", " + n + ")", () -> x.key(a, n), () -> m.key(a, n)); break;
            case 13: same("near" + ak, () -> x.near(a, k), () -> m.near(a, k)); break;
            case 14: same("sum(" + a + ", " + k + ", " + l + ")", () -> x.sum(a, k, l), () -> m.sum(a, k, l)); break;
            case 15: same("with(" + a + ", " + v + ")", () -> x.with(a, v), () -> m.with(a, v)); break;
            case 16: case 51: same("proof" + ak, () -> x.proof(a, k), () -> m.proof(a, k)); break;
            case 17: int to = random.nextBoolean() ? v : any;
                same("alters(" + n + ", " + to + ")", () -> x.alters(n, to) ? 1 : 0, () -> m.alters(n, to) ? 1 : 0); break;
            case 18: write(bent(proofText())); same("told()", x::told, m::told); break;
            case 19: same("hand()", x::hand, m::hand); break;
            case 20: case 52: same("accepts(" + a + ")", () -> x.accepts(a), () -> m.accepts(a)); break;
            case 21: same("accepted()", x::accepted, m::accepted); break;
            case 22: same("bare" + ak, () -> x.bare(a, k), () -> m.bare(a, k)); break;
            case 23: write(bent(keysText())); same("together(" + a + ")", () -> x.together(a), () -> m.together(a)); break;
            case 24: same("others" + ak, () -> x.others(a, k), () -> m.others(a, k)); break;
            case 25: same("path" + ak, () -> x.path(a, k), () -> m.path(a, k)); break;
            case 26: same("stretch(" + a + ", " + k + ", " + l + ")", () -> x.stretch(a, k, l), () -> m.stretch(a, k, l)); break;
            case 27: same("forks(" + a + ", " + k + ", " + l + ")", () -> x.forks(a, k, l), () -> m.forks(a, k, l)); break;
            case 28: same("shared" + ab, () -> x.shared(a, b), () -> m.shared(a, b)); break;
            case 29: same("differ" + ab, () -> x.differ(a, b), () -> m.differ(a, b)); break;
            case 30: same("looks" + ab, () -> x.looks(a, b), () -> m.looks(a, b)); break;
            case 31: same("all()", x::all, m::all); break;
            case 32: same("history(" + k + ")", () -> x.history(k), () -> m.history(k)); break;
            case 33: same("hot()", x::hot, m::hot); break;
            case 34: same("would(" + a + ", " + k + ", " + v + ")", () -> x.would(a, k, v), () -> m.would(a, k, v)); break;
            case 35: same("against(" + a + ", " + b + ", " + c + ")", () -> x.against(a, b, c), () -> m.against(a, b, c)); break;
            case 36: same("versions()", x::versions, m::versions); break;
            case 37: same("since(" + k + ")", () -> x.since(k), () -> m.since(k)); break;
            default: change(kind, a, b, c, k, l, v);
        }
    }

    private void change(int kind, int a, int b, int c, int k, int l, int v) {
        switch (kind) {
            case 38: case 53: same("puts(" + k + ", " + v + ")", () -> x.puts(k, v), () -> m.puts(k, v)); break;
            case 39: int from = m.count(4) > 0 && random.nextInt(3) > 0 ? fullKey() : k;
                same("moves(" + from + ", " + l + ")", () -> x.moves(from, l), () -> m.moves(from, l)); break;
            case 40: int mask = random.nextInt(6) == 0 ? odd() : random.nextInt(m.count(1) + 1);
                same("flips(" + mask + ")", () -> x.flips(mask), () -> m.flips(mask)); break;
            case 41: same("swaps(" + k + ", " + l + ")", () -> x.swaps(k, l), () -> m.swaps(k, l)); break;
            case 42: same("back(" + a + ")", () -> x.back(a), () -> m.back(a)); break;
            case 43: same("joins(" + a + ", " + b + ", " + c + ")", () -> x.joins(a, b, c), () -> m.joins(a, b, c)); break;
            case 44: int to = random.nextBoolean() ? l : k + random.nextInt(4);
                same("clears(" + k + ", " + to + ")", () -> x.clears(k, to), () -> m.clears(k, to)); break;
            case 45: write(bent(dayText())); same("day()", x::day, m::day); break;
            case 46: same("undo()", x::undo, m::undo); break;
            case 47: int seed = random.nextInt();
                int n = random.nextInt(8) == 0 ? odd() : random.nextInt(62);
                same("years(" + seed + ", " + n + ")", () -> x.years(seed, n), () -> m.years(seed, n)); break;
            case 48: int i = random.nextInt(8) == 0 ? odd() : random.nextInt(3);
                same("keep(" + i + ")", () -> x.keep(i) ? 1 : 0, () -> m.keep(i) ? 1 : 0); break;
            default: int j = random.nextInt(8) == 0 ? odd() : random.nextInt(3);
                same("again(" + j + ")", () -> x.again(j) ? 1 : 0, () -> m.again(j) ? 1 : 0);
        }
    }

    private int fullKey() {
        int wanted = random.nextInt(m.count(4));
        for (int k = 0; k < m.count(1); k++) {
            if (m.get(m.count(2), k) != 0 && wanted-- == 0) {
                return k;
            }
        }
        return 0;
    }
}
