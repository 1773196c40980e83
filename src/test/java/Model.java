import java.util.ArrayList;
import java.util.HashMap;
import java.util.HashSet;
import java.util.List;
import java.util.Map;
import java.util.NoSuchElementException;
import java.util.Set;
import java.util.TreeMap;
import java.util.TreeSet;
import java.util.regex.Matcher;
import java.util.regex.Pattern;

/**
 * The document once more, in the slowest and plainest way: nothing is remembered but values, and each
 * answer is worked out from its definition. It shares no code and no idea of storage with the program.
 */
final class Model {
    static final int NONE = -1;

    private String text = "";
    private List<Long> row = new ArrayList<>();
    private int depth = 4;
    private TreeMap<Integer, int[]> kept = new TreeMap<>();
    private Hand hand;
    private final Map<Integer, Integer> slotDepth = new HashMap<>();
    private final Map<Integer, TreeMap<Integer, int[]>> slots = new HashMap<>();

    private static final class Hand {
        int key;
        int value;
        int bits;
        final List<Integer> marks = new ArrayList<>();
    }

    /** Where a text goes wrong. */
    private static final class Wrong extends Exception {
        private static final long serialVersionUID = 1;
        final int place;

        Wrong(int place) {
            this.place = place;
        }
    }

    Model() {
        kept.put(0, new int[16]);
    }

    // ---- definitions

    private int keys() {
        return 1 << depth;
    }

    private int[] now() {
        return kept.lastEntry().getValue();
    }

    private boolean noKey(int key) {
        return key < 0 || key >= keys();
    }

    private static int h(int a, int b) {
        int x = (31 * a + b + 17) * -1640531535;
        return x ^ (x >>> 15);
    }

    private static int mark(int[] values, int level, int i) {
        if (level == 0) {
            return values[i] == 0 ? 0 : h(i + 1, values[i]);
        }
        return h(mark(values, level - 1, 2 * i), mark(values, level - 1, 2 * i + 1));
    }

    private static boolean isBare(int[] values, int level, int i) {
        for (int k = i << level; k < (i + 1) << level; k++) {
            if (values[k] != 0) {
                return false;
            }
        }
        return true;
    }

    private static boolean alike(int[] one, int[] two, int level, int i) {
        for (int k = i << level; k < (i + 1) << level; k++) {
            if (one[k] != two[k]) {
                return false;
            }
        }
        return true;
    }

    private int rootOf(int[] values) {
        return mark(values, depth, 0);
    }

    private static int full(int[] values) {
        int n = 0;
        for (int v : values) {
            n += v != 0 ? 1 : 0;
        }
        return n;
    }

    private int nodesOf(int[] values) {
        int n = 0;
        for (int level = 0; level <= depth; level++) {
            n += levelOf(values, level).size();
        }
        return n;
    }

    private List<Long> levelOf(int[] values, int level) {
        List<Long> found = new ArrayList<>();
        for (int i = 0; i < keys() >> level; i++) {
            if (!isBare(values, level, i)) {
                found.add((long) i);
            }
        }
        return found;
    }

    private int workOf(Set<Integer> set) {
        Set<String> nodes = new HashSet<>();
        for (int key : set) {
            for (int level = 1; level <= depth; level++) {
                nodes.add(level + ":" + (key >> level));
            }
        }
        return nodes.size() + set.size();
    }

    private List<Long> need(Set<Integer> set, int[] values) {
        List<Long> marks = new ArrayList<>();
        for (int level = 0; level < depth; level++) {
            for (int i = 0; i < keys() >> level; i++) {
                boolean beside = false;
                boolean over = false;
                for (int key : set) {
                    beside |= (key >> level ^ 1) == i;
                    over |= key >> level == i;
                }
                if (beside && !over && !isBare(values, level, i)) {
                    marks.add((long) mark(values, level, i));
                }
            }
        }
        return marks;
    }

    private void tell(long... numbers) {
        row = new ArrayList<>();
        for (long n : numbers) {
            row.add(n);
        }
    }

    private int become(int[] values, int tooMany, int same) {
        if (full(values) > 40) {
            return tooMany;
        }
        if (alike(values, now(), depth, 0)) {
            return same;
        }
        int version = kept.lastKey() + 1;
        kept.put(version, values);
        while (kept.size() > 12) {
            kept.remove(kept.firstKey());
        }
        return version;
    }

    // ---- texts

    int sign(int v) {
        if (text.length() > 76) {
            return NONE;
        }
        text += (char) (v >>> 24);
        text += (char) (v << 8 >>> 24);
        text += (char) (v << 16 >>> 24);
        text += (char) (v << 24 >>> 24);
        return text.length();
    }

    boolean end(int n) {
        if (n < 0 || n > text.length()) {
            return false;
        }
        text = text.substring(0, n);
        return true;
    }

    private String readText() {
        String all = text;
        text = "";
        return all;
    }

    private static int run(String s, int from) {
        int n = 0;
        while (from + n < s.length() && "0123456789".indexOf(s.charAt(from + n)) >= 0) {
            n++;
        }
        return n;
    }

    private static int runOf(String s, int from, int most) throws Wrong {
        int n = run(s, from);
        if (n == 0) {
            throw new Wrong(from);
        }
        if (n > most) {
            throw new Wrong(from + most);
        }
        return n;
    }

    private static int one(String s, int from, char sign) throws Wrong {
        if (from >= s.length() || s.charAt(from) != sign) {
            throw new Wrong(from);
        }
        return from + 1;
    }

    private static int keyAt(String s, int at, int keys, Set<Integer> told) throws Wrong {
        int n = runOf(s, at, 3);
        int key = Integer.parseInt(s.substring(at, at + n));
        if (key >= keys || !told.add(key)) {
            throw new Wrong(at + n - 1);
        }
        return at + n;
    }

    private static int pairAt(String s, int at, int keys, boolean zero, Set<Integer> told, int[] values) throws Wrong {
        int next = keyAt(s, at, keys, told);
        int key = Integer.parseInt(s.substring(at, next));
        next = one(s, next, '=');
        int n = runOf(s, next, 3);
        values[key] = Integer.parseInt(s.substring(next, next + n));
        if (values[key] == 0 && !zero) {
            throw new Wrong(next + n - 1);
        }
        return next + n;
    }

    int map() {
        String s = readText();
        try {
            if (s.isEmpty() || s.charAt(0) < '3' || s.charAt(0) > '8') {
                throw new Wrong(0);
            }
            int newDepth = s.charAt(0) - '0';
            int[] values = new int[1 << newDepth];
            Set<Integer> told = new HashSet<>();
            int at = 1;
            while (at < s.length()) {
                at = pairAt(s, one(s, at, ','), values.length, false, told, values);
            }
            depth = newDepth;
            kept = new TreeMap<>();
            kept.put(0, values);
            hand = null;
            return told.size();
        } catch (Wrong e) {
            return -1 - e.place;
        }
    }

    int batch() {
        String s = readText();
        try {
            int[] values = now().clone();
            Set<Integer> told = new HashSet<>();
            int at = pairAt(s, 0, keys(), true, told, values);
            while (at < s.length()) {
                at = pairAt(s, one(s, at, ','), keys(), true, told, values);
            }
            int answer = become(values, -300, -200);
            if (answer >= 0) {
                long alone = 0;
                for (int key : told) {
                    alone += workOf(Set.of(key));
                }
                tell(workOf(told), alone);
            }
            return answer;
        } catch (Wrong e) {
            return -1 - e.place;
        }
    }

    int sheet(int key, int kind, int n, int f, int step) {
        if (noKey(key) || kind < 0 || kind > 3 || n > 40) {
            return NONE;
        }
        if (kind == 3) {
            return -3;
        }
        if (n < 0) {
            return -2;
        }
        int[] values = now().clone();
        int entry = f;
        for (int i = 0; i < n; i++) {
            if (noKey(key + i)) {
                tell(i);
                return -4;
            }
            int v = new int[] {(byte) entry, (short) entry, entry}[kind];
            values[key + i] = v < 0 ? 0 : v > 999 ? 999 : v;
            entry += step;
        }
        return become(values, -5, -6);
    }

    // ---- what there is

    int level(int version, int level) {
        int[] values = kept.get(version);
        if (values == null || level < 0 || level > depth) {
            return NONE;
        }
        row = levelOf(values, level);
        return row.size();
    }

    int holes(int version) {
        int[] values = kept.get(version);
        if (values == null) {
            return NONE;
        }
        int count = 0;
        long bestLevel = NONE;
        long best = NONE;
        for (int level = 0; level <= depth; level++) {
            for (int i = 0; i < keys() >> level; i++) {
                boolean free = isBare(values, level, i);
                for (int up = level + 1; up <= depth; up++) {
                    free &= !isBare(values, up, i >> (up - level));
                }
                if (free) {
                    count++;
                    if (level > bestLevel) {
                        bestLevel = level;
                        best = i;
                    }
                }
            }
        }
        tell(bestLevel, best, keys() - full(values));
        return count;
    }

    int middle(int version) {
        int[] values = kept.get(version);
        if (values == null) {
            return NONE;
        }
        int total = 0;
        for (int v : values) {
            total += v;
        }
        if (total == 0) {
            return -2;
        }
        int sum = 0;
        for (int key = 0;; key++) {
            sum += values[key];
            if (sum >= total - sum) {
                tell(sum);
                return key;
            }
        }
    }

    int get(int version, int key) {
        if (!kept.containsKey(version) || noKey(key)) {
            throw new NoSuchElementException();
        }
        return kept.get(version)[key];
    }

    int root(int version) {
        int[] values = kept.get(version);
        if (values == null) {
            return NONE;
        }
        tell(rootOf(values));
        return full(values);
    }

    int node(int version, int level, int i) {
        int[] values = kept.get(version);
        if (values == null || level < 0 || level > depth || i < 0 || i >= keys() >> level) {
            return NONE;
        }
        tell(mark(values, level, i));
        return isBare(values, level, i) ? 1 : 0;
    }

    int nodes(int version) {
        int[] values = kept.get(version);
        if (values == null) {
            return NONE;
        }
        row = new ArrayList<>();
        for (int level = 0; level <= depth; level++) {
            row.add((long) levelOf(values, level).size());
        }
        return nodesOf(values);
    }

    int key(int version, int k) {
        int[] values = kept.get(version);
        if (values == null) {
            return NONE;
        }
        List<Long> all = levelOf(values, 0);
        if (k < 0 || k >= all.size()) {
            return NONE;
        }
        int key = all.get(k).intValue();
        tell(values[key]);
        return key;
    }

    int near(int version, int key) {
        int[] values = kept.get(version);
        if (values == null || noKey(key)) {
            return NONE;
        }
        TreeSet<Long> all = new TreeSet<>(levelOf(values, 0));
        Long lower = all.lower((long) key);
        Long higher = all.higher((long) key);
        tell(lower == null ? NONE : lower, higher == null ? NONE : higher);
        return all.headSet((long) key).size();
    }

    int sum(int version, int from, int to) {
        int[] values = kept.get(version);
        if (values == null || noKey(from) || noKey(to) || to < from) {
            return NONE;
        }
        int sum = 0;
        int n = 0;
        int most = 0;
        for (int k = from; k <= to; k++) {
            sum += values[k];
            n += values[k] == 0 ? 0 : 1;
            most = values[k] > most ? values[k] : most;
        }
        tell(n, most);
        return sum;
    }

    int with(int version, int value) {
        int[] values = kept.get(version);
        if (values == null || value < 1 || value > 999) {
            return NONE;
        }
        row = new ArrayList<>();
        for (int k = 0; k < values.length; k++) {
            if (values[k] == value) {
                row.add((long) k);
            }
        }
        return row.size();
    }

    // ---- proofs

    int proof(int version, int key) {
        int[] values = kept.get(version);
        if (values == null || noKey(key)) {
            return NONE;
        }
        hand = new Hand();
        hand.key = key;
        hand.value = values[key];
        for (int level = 0; level < depth; level++) {
            if (!isBare(values, level, key >> level ^ 1)) {
                hand.bits += 1 << level;
                hand.marks.add(mark(values, level, key >> level ^ 1));
            }
        }
        hand();
        row.remove(0);
        return hand.marks.size();
    }

    boolean alters(int what, int v) {
        if (hand == null) {
            return false;
        }
        if (what == 0 && v >= 0 && v <= 255) {
            hand.key = v;
            return true;
        }
        if (what == 1 && v >= 0 && v <= 999) {
            hand.value = v;
            return true;
        }
        if (what == 2 && v >= 0 && v <= 255) {
            hand.bits = v;
            return true;
        }
        if (what >= 3 && what <= 10 && what - 3 < hand.marks.size()) {
            hand.marks.set(what - 3, v);
            return true;
        }
        return false;
    }

    int told() {
        String s = readText();
        try {
            Hand next = new Hand();
            int at = runOf(s, 0, 3);
            next.key = Integer.parseInt(s.substring(0, at));
            if (next.key > 255) {
                throw new Wrong(at - 1);
            }
            at = one(s, at, '=');
            int n = runOf(s, at, 3);
            next.value = Integer.parseInt(s.substring(at, at + n));
            at = one(s, at + n, ':');
            n = runOf(s, at, 3);
            next.bits = Integer.parseInt(s.substring(at, at + n));
            at += n;
            if (next.bits > 255) {
                throw new Wrong(at - 1);
            }
            while (at < s.length()) {
                if (next.marks.size() == 8) {
                    throw new Wrong(at);
                }
                at = one(s, at, ':');
                int start = at;
                if (at < s.length() && s.charAt(at) == '-') {
                    at++;
                }
                at += runOf(s, at, 10);
                try {
                    next.marks.add(Integer.parseInt(s.substring(start, at)));
                } catch (NumberFormatException e) {
                    throw new Wrong(at - 1);
                }
            }
            hand = next;
            return next.marks.size();
        } catch (Wrong e) {
            return -1 - e.place;
        }
    }

    int hand() {
        if (hand == null) {
            return -2;
        }
        tell(hand.key, hand.value, hand.bits);
        for (int m : hand.marks) {
            row.add((long) m);
        }
        return hand.marks.size();
    }

    private int bareMark(int level) {
        return level == 0 ? 0 : h(bareMark(level - 1), bareMark(level - 1));
    }

    private int climbed(int level) {
        if (level == 0) {
            return hand.value == 0 ? 0 : h(hand.key + 1, hand.value);
        }
        int below = level - 1;
        int beside = bareMark(below);
        if ((hand.bits >> below) % 2 == 1) {
            int used = Integer.bitCount(hand.bits & ((1 << below) - 1));
            beside = used < hand.marks.size() ? hand.marks.get(used) : 0;
        }
        int mine = climbed(below);
        return (hand.key >> below) % 2 == 0 ? h(mine, beside) : h(beside, mine);
    }

    int accepts(int version) {
        int[] values = kept.get(version);
        if (values == null) {
            return NONE;
        }
        if (hand == null) {
            return -2;
        }
        if (noKey(hand.key)) {
            tell(0);
            return 0;
        }
        tell(climbed(depth));
        return climbed(depth) == rootOf(values) ? 1 : 0;
    }

    int accepted() {
        if (hand == null) {
            return -2;
        }
        List<Long> found = new ArrayList<>();
        for (int version : kept.keySet()) {
            if (accepts(version) == 1) {
                found.add((long) version);
            }
        }
        row = found;
        return found.size();
    }

    int bare(int version, int key) {
        int[] values = kept.get(version);
        if (values == null || noKey(key)) {
            return NONE;
        }
        if (values[key] != 0) {
            return -2;
        }
        int greatest = 0;
        for (int level = 0; level <= depth; level++) {
            if (isBare(values, level, key >> level)) {
                greatest = level;
            }
        }
        int beside = 0;
        for (int level = greatest; level < depth; level++) {
            beside += isBare(values, level, key >> level ^ 1) ? 0 : 1;
        }
        int width = 1 << greatest;
        tell(key - key % width, width, beside);
        return greatest;
    }

    int together(int version) {
        String s = readText();
        int[] values = kept.get(version);
        if (values == null) {
            return -200;
        }
        try {
            Set<Integer> told = new HashSet<>();
            int at = keyAt(s, 0, keys(), told);
            while (at < s.length()) {
                at = keyAt(s, one(s, at, ','), keys(), told);
            }
            int marks = 0;
            for (int key : told) {
                for (int level = 0; level < depth; level++) {
                    marks += isBare(values, level, key >> level ^ 1) ? 0 : 1;
                }
            }
            tell(marks, workOf(told));
            return need(told, values).size();
        } catch (Wrong e) {
            return -1 - e.place;
        }
    }

    int others(int version, int key) {
        int[] values = kept.get(version);
        if (values == null || noKey(key) || values[key] == 0) {
            return NONE;
        }
        Set<Integer> set = new HashSet<>();
        for (int k = 0; k < values.length; k++) {
            if (values[k] != 0 && k != key) {
                set.add(k);
            }
        }
        row = need(set, values);
        return row.size();
    }

    int path(int version, int key) {
        int[] values = kept.get(version);
        if (values == null || noKey(key)) {
            return NONE;
        }
        int least = depth + 1;
        row = new ArrayList<>();
        for (int level = depth; level >= 0; level--) {
            row.add(0, (long) mark(values, level, key >> level));
            if (!isBare(values, level, key >> level)) {
                least = level;
            }
        }
        return least;
    }

    private void cover(int level, int i, int from, int to, List<Long> found) {
        int first = i << level;
        int last = ((i + 1) << level) - 1;
        if (last < from || first > to) {
            return;
        }
        if (first >= from && last <= to) {
            found.add(1000L * level + i);
            return;
        }
        cover(level - 1, 2 * i, from, to, found);
        cover(level - 1, 2 * i + 1, from, to, found);
    }

    int stretch(int version, int from, int to) {
        int[] values = kept.get(version);
        if (values == null || noKey(from) || noKey(to) || to < from) {
            return NONE;
        }
        List<Long> found = new ArrayList<>();
        cover(depth, 0, from, to, found);
        Set<String> beside = new HashSet<>();
        for (long code : found) {
            int i = (int) (code % 1000);
            for (int level = (int) (code / 1000); level < depth; level++) {
                int other = i ^ 1;
                boolean over = other << level <= to && ((other + 1) << level) - 1 >= from;
                if (!over && !isBare(values, level, other)) {
                    beside.add(level + ":" + other);
                }
                i /= 2;
            }
        }
        row = found;
        row.add((long) beside.size());
        return found.size() - 1;
    }

    int forks(int version, int key, int other) {
        int[] values = kept.get(version);
        if (values == null || noKey(key) || noKey(other)) {
            return NONE;
        }
        int level = 0;
        while (key >> level != other >> level) {
            level++;
        }
        int n = 0;
        int first = key >> level << level;
        for (int k = first; k < first + (1 << level); k++) {
            n += values[k] == 0 ? 0 : 1;
        }
        tell(n, first);
        return level;
    }

    // ---- versions

    int shared(int version, int other) {
        int[] one = kept.get(version);
        int[] two = kept.get(other);
        if (one == null || two == null) {
            return NONE;
        }
        int same = 0;
        for (int level = 0; level <= depth; level++) {
            for (int i = 0; i < keys() >> level; i++) {
                if (!isBare(one, level, i) && !isBare(two, level, i) && alike(one, two, level, i)) {
                    same++;
                }
            }
        }
        tell(nodesOf(one) - same, nodesOf(two) - same);
        return same;
    }

    int differ(int version, int other) {
        int[] one = kept.get(version);
        int[] two = kept.get(other);
        if (one == null || two == null) {
            return NONE;
        }
        row = new ArrayList<>();
        for (int k = 0; k < one.length; k++) {
            if (one[k] != two[k]) {
                row.add((long) k);
            }
        }
        return row.size();
    }

    private int looksBelow(int[] one, int[] two, int level, int i) {
        if (level == 0 || alike(one, two, level, i)) {
            return 1;
        }
        return 1 + looksBelow(one, two, level - 1, 2 * i) + looksBelow(one, two, level - 1, 2 * i + 1);
    }

    int looks(int version, int other) {
        int[] one = kept.get(version);
        int[] two = kept.get(other);
        return one == null || two == null ? NONE : looksBelow(one, two, depth, 0);
    }

    int all() {
        Set<String> nodes = new HashSet<>();
        int every = 0;
        for (int[] values : kept.values()) {
            for (int level = 0; level <= depth; level++) {
                for (int i = 0; i < keys() >> level; i++) {
                    if (!isBare(values, level, i)) {
                        StringBuilder name = new StringBuilder();
                        name.append(level).append(':').append(i);
                        for (int k = i << level; k < (i + 1) << level; k++) {
                            name.append(',').append(values[k]);
                        }
                        nodes.add(name.toString());
                        every++;
                    }
                }
            }
        }
        tell(every);
        return nodes.size();
    }

    int history(int key) {
        if (noKey(key)) {
            return NONE;
        }
        row = new ArrayList<>();
        Integer was = null;
        for (Map.Entry<Integer, int[]> e : kept.entrySet()) {
            int value = e.getValue()[key];
            if (was == null || was != value) {
                row.add((long) e.getKey());
                row.add((long) value);
            }
            was = value;
        }
        return row.size() / 2 - 1;
    }

    int hot() {
        List<Long> before = row;
        int hottest = -2;
        int most = 0;
        for (int k = keys() - 1; k >= 0; k--) {
            int n = history(k);
            if (n > 0 && n >= most) {
                hottest = k;
                most = n;
            }
        }
        row = before;
        if (hottest >= 0) {
            tell(most);
        }
        return hottest;
    }

    int would(int version, int key, int v) {
        int[] values = kept.get(version);
        if (values == null || noKey(key) || v < 0 || v > 999) {
            return NONE;
        }
        int[] next = values.clone();
        next[key] = v;
        int changed = 0;
        for (int level = 0; level <= depth; level++) {
            for (int i = 0; i < keys() >> level; i++) {
                changed += mark(values, level, i) == mark(next, level, i) ? 0 : 1;
            }
        }
        tell(rootOf(next), changed);
        return full(next);
    }

    int against(int version, int other, int of) {
        int[] one = kept.get(version);
        int[] two = kept.get(other);
        int[] base = kept.get(of);
        if (one == null || two == null || base == null) {
            return NONE;
        }
        row = new ArrayList<>();
        for (int k = 0; k < one.length; k++) {
            if (one[k] != base[k] && two[k] != base[k] && one[k] != two[k]) {
                row.add((long) k);
            }
        }
        return row.size();
    }

    int versions() {
        tell(kept.firstKey(), kept.lastKey());
        return kept.size();
    }

    int since(int key) {
        if (noKey(key)) {
            return NONE;
        }
        for (Map.Entry<Integer, int[]> e : kept.descendingMap().entrySet()) {
            if (e.getValue()[key] != now()[key]) {
                tell(e.getValue()[key]);
                return e.getKey();
            }
        }
        return -2;
    }

    // ---- changes

    int puts(int key, int v) {
        if (noKey(key) || v < 0 || v > 999) {
            return NONE;
        }
        int[] next = now().clone();
        next[key] = v;
        return become(next, -5, -2);
    }

    int moves(int key, int to) {
        if (noKey(key) || noKey(to) || key == to) {
            return NONE;
        }
        if (now()[key] == 0) {
            return -2;
        }
        if (now()[to] != 0) {
            return -3;
        }
        return swaps(key, to);
    }

    int flips(int mask) {
        if (mask <= 0 || mask >= keys()) {
            return NONE;
        }
        int[] next = new int[keys()];
        for (int k = 0; k < next.length; k++) {
            next[k ^ mask] = now()[k];
        }
        return become(next, -5, -2);
    }

    int swaps(int key, int other) {
        if (noKey(key) || noKey(other) || key == other) {
            return NONE;
        }
        int[] next = now().clone();
        next[key] = now()[other];
        next[other] = now()[key];
        return become(next, -5, -2);
    }

    int back(int version) {
        int[] values = kept.get(version);
        return values == null ? NONE : become(values.clone(), -5, -2);
    }

    int joins(int version, int other, int of) {
        List<Long> before = row;
        int conflicts = against(version, other, of);
        row = before;
        if (conflicts < 0) {
            return NONE;
        }
        if (conflicts > 0) {
            tell(conflicts);
            return -4;
        }
        int[] next = kept.get(of).clone();
        for (int from : new int[] {version, other}) {
            for (int k = 0; k < next.length; k++) {
                if (kept.get(from)[k] != kept.get(of)[k]) {
                    next[k] = kept.get(from)[k];
                }
            }
        }
        return become(next, -5, -2);
    }

    int clears(int from, int to) {
        if (noKey(from) || noKey(to) || to < from) {
            return NONE;
        }
        int[] next = now().clone();
        for (int k = from; k <= to; k++) {
            next[k] = 0;
        }
        return become(next, -5, -2);
    }

    int day() {
        String s = readText();
        List<String> acts = new ArrayList<>();
        int at = 0;
        while (at < s.length()) {
            if ("pmscb".indexOf(s.charAt(at)) < 0) {
                return -1 - at;
            }
            int length = s.charAt(at) == 'b' ? 2 : 6;
            int digits = Math.min(length, run(s, at + 1));
            if (digits < length) {
                return -1 - (at + 1 + digits);
            }
            acts.add(s.substring(at, at + 1 + length));
            at += 1 + length;
        }
        int done = 0;
        boolean stopped = false;
        for (String act : acts) {
            Matcher m = Pattern.compile("b(..)|(.)(...)(...)").matcher(act);
            m.matches();
            int answer;
            if (m.group(1) != null) {
                answer = back(Integer.parseInt(m.group(1)));
            } else {
                int a = Integer.parseInt(m.group(3));
                int b = Integer.parseInt(m.group(4));
                switch (m.group(2)) {
                    case "p": answer = puts(a, b); break;
                    case "m": answer = moves(a, b); break;
                    case "s": answer = swaps(a, b); break;
                    default: answer = clears(a, b);
                }
            }
            if (answer < 0) {
                stopped = true;
                break;
            }
            done++;
        }
        tell(stopped ? 1 : 0, kept.lastKey());
        return done;
    }

    int undo() {
        if (kept.size() == 1) {
            return NONE;
        }
        kept.remove(kept.lastKey());
        return kept.lastKey();
    }

    private int r;

    private int draw(int n) {
        r = r * 1103515245 + 12345;
        return (int) ((r & 0xffffffffL) / 65536 % n);
    }

    int years(int seed, int n) {
        if (n < 1 || n > 60) {
            return NONE;
        }
        TreeMap<Integer, int[]> before = new TreeMap<>(kept);
        r = seed;
        for (int i = 0; i < n; i++) {
            int key = draw(keys());
            int value = draw(4) == 0 ? 0 : draw(999) + 1;
            puts(key, value);
        }
        tell(rootOf(now()), nodesOf(now()));
        int answer = full(now());
        kept = before;
        return answer;
    }

    // ---- kept

    boolean keep(int i) {
        if (i != 0 && i != 1) {
            return false;
        }
        slotDepth.put(i, depth);
        slots.put(i, new TreeMap<>(kept));
        return true;
    }

    boolean again(int i) {
        if (!slots.containsKey(i)) {
            return false;
        }
        depth = slotDepth.get(i);
        kept = new TreeMap<>(slots.get(i));
        hand = null;
        return true;
    }

    int count(int what) {
        int total = 0;
        for (int v : now()) {
            total += v;
        }
        int[] all = {depth, keys(), kept.lastKey(), kept.size(), full(now()), total, hand == null ? 0 : 1, row.size(), text.length()};
        return what < 0 || what >= all.length ? NONE : all[what];
    }

    long row(int i) {
        if (i < 0 || i >= row.size()) {
            throw new NoSuchElementException();
        }
        return row.get(i);
    }
}
