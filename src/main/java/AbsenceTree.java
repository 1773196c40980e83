import java.util.Arrays;
import java.util.NoSuchElementException;

/** A map of few keys in a tree of marks, with proofs of what it has and of what it has not. */
public final class AbsenceTree {
    public static final int NONE = -1;

    private static final int LEAST_DEPTH = 3;
    private static final int FIRST_DEPTH = 4;
    private static final int MOST_DEPTH = 8;
    private static final int MOST_KEYS = 1 << MOST_DEPTH;
    private static final int MOST_BYTE = 255;
    private static final int MOST_VALUE = 999;
    private static final int MOST_FULL = 40;
    private static final int MOST_VERSIONS = 12;
    private static final int MOST_SIGNS = 80;
    private static final int MOST_ROW = 128;
    private static final int MOST_YEARS = 60;
    private static final int SLOTS = 2;

    private static final int NO_CHANGE = -2;
    private static final int NOTHING = -2;
    private static final int TAKEN = -3;
    private static final int TOO_MANY = -5;

    private final Text text;
    private final Row numbers;
    private final Proof held;
    private final Proof heard;
    private final History past;
    private final History[] slots;
    private final Tree draft;
    private final KeySet chosen;

    public AbsenceTree() {
        text = new Text();
        numbers = new Row();
        held = new Proof();
        heard = new Proof();
        past = new History();
        slots = new History[SLOTS];
        draft = new Tree();
        chosen = new KeySet();
        draft.clear(FIRST_DEPTH);
        past.begin(draft);
    }

    // ---- texts

    public int sign(int v) {
        if (text.size + 4 > MOST_SIGNS) {
            return NONE;
        }
        for (int shift = 24; shift >= 0; shift -= 8) {
            text.append((char) ((v >>> shift) & 255));
        }
        return text.size;
    }

    public boolean end(int n) {
        if (n < 0 || n > text.size) {
            return false;
        }
        text.size = n;
        return true;
    }

    public int map() {
        int fault = readMap();
        text.size = 0;
        if (fault != NONE) {
            return -1 - fault;
        }
        past.begin(draft);
        held.there = false;
        return draft.full.size();
    }

    public int batch() {
        int fault = readBatch();
        text.size = 0;
        if (fault != NONE) {
            return -1 - fault;
        }
        int answer = settle(-300, -200);
        if (answer >= 0) {
            numbers.empty();
            numbers.add(chosen.work());
            numbers.add((long) chosen.size() * (past.depth + 1));
        }
        return answer;
    }

    public int sheet(int key, int kind, int n, int f, int step) {
        if (!past.hasKey(key) || kind < 0 || kind > 3 || n > MOST_FULL) {
            return NONE;
        }
        if (kind == 3) {
            return -3;
        }
        if (n < 0) {
            return -2;
        }
        if (n > past.keys() - key) {
            numbers.empty();
            numbers.add(past.keys() - key);
            return -4;
        }
        draft.take(past.newest());
        for (int i = 0; i < n; i++) {
            draft.place(key + i, sheetValue(kind, f + i * step));
        }
        return settle(TOO_MANY, -6);
    }

    // ---- what there is

    public int level(int version, int level) {
        Tree tree = past.find(version);
        if (tree == null || level < 0 || level > past.depth) {
            return NONE;
        }
        numbers.empty();
        int start = 1 << (past.depth - level);
        for (int i = 0; i < start; i++) {
            if (!tree.bareAt(start + i)) {
                numbers.add(i);
            }
        }
        return numbers.size;
    }

    public int holes(int version) {
        Tree tree = past.find(version);
        if (tree == null) {
            return NONE;
        }
        int count = 0;
        int greatest = NONE;
        int number = NONE;
        // from the root down, so the first hole that is met is the greatest
        for (int level = past.depth; level >= 0; level--) {
            int start = 1 << (past.depth - level);
            for (int i = 0; i < start; i++) {
                if (tree.bareAt(start + i) && (start == 1 || !tree.bareAt((start + i) >> 1))) {
                    if (count == 0) {
                        greatest = level;
                        number = i;
                    }
                    count++;
                }
            }
        }
        numbers.empty();
        numbers.add(greatest);
        numbers.add(number);
        numbers.add(past.keys() - tree.full.size());
        return count;
    }

    public int middle(int version) {
        Tree tree = past.find(version);
        if (tree == null) {
            return NONE;
        }
        int total = tree.total();
        if (total == 0) {
            return NOTHING;
        }
        int sum = 0;
        int key = 0;
        for (int k = 0; k < past.keys() && 2 * sum < total; k++) {
            sum += tree.valueOf(k);
            key = k;
        }
        numbers.empty();
        numbers.add(sum);
        return key;
    }

    public int get(int version, int key) throws NoSuchElementException {
        Tree tree = past.find(version);
        if (tree == null || !past.hasKey(key)) {
            throw new NoSuchElementException();
        }
        return tree.valueOf(key);
    }

    public int root(int version) {
        Tree tree = past.find(version);
        if (tree == null) {
            return NONE;
        }
        numbers.empty();
        numbers.add(tree.markAt(1));
        return tree.full.size();
    }

    public int node(int version, int level, int i) {
        Tree tree = past.find(version);
        if (tree == null || level < 0 || level > past.depth) {
            return NONE;
        }
        int start = 1 << (past.depth - level);
        if (i < 0 || i >= start) {
            return NONE;
        }
        numbers.empty();
        numbers.add(tree.markAt(start + i));
        return tree.bareAt(start + i) ? 1 : 0;
    }

    public int nodes(int version) {
        Tree tree = past.find(version);
        if (tree == null) {
            return NONE;
        }
        numbers.empty();
        for (int level = 0; level <= past.depth; level++) {
            int start = 1 << (past.depth - level);
            numbers.add(tree.full.nodesIn(start, 2 * start));
        }
        return tree.full.nodesIn(1, 2 * past.keys());
    }

    public int key(int version, int k) {
        Tree tree = past.find(version);
        if (tree == null || k < 0 || k >= tree.full.size()) {
            return NONE;
        }
        int ahead = 0;
        int found = NONE;
        for (int key = 0; key < past.keys() && found == NONE; key++) {
            if (tree.valueOf(key) > 0) {
                if (ahead == k) {
                    found = key;
                }
                ahead++;
            }
        }
        numbers.empty();
        numbers.add(tree.valueOf(found));
        return found;
    }

    public int near(int version, int key) {
        Tree tree = past.find(version);
        if (tree == null || !past.hasKey(key)) {
            return NONE;
        }
        int below = 0;
        int left = NONE;
        for (int k = 0; k < key; k++) {
            if (tree.valueOf(k) > 0) {
                below++;
                left = k;
            }
        }
        int right = NONE;
        for (int k = key + 1; k < past.keys() && right == NONE; k++) {
            if (tree.valueOf(k) > 0) {
                right = k;
            }
        }
        numbers.empty();
        numbers.add(left);
        numbers.add(right);
        return below;
    }

    public int sum(int version, int from, int to) {
        Tree tree = past.find(version);
        if (tree == null || !past.hasStretch(from, to)) {
            return NONE;
        }
        int sum = 0;
        int full = 0;
        int greatest = 0;
        for (int k = from; k <= to; k++) {
            int value = tree.valueOf(k);
            sum += value;
            full += value > 0 ? 1 : 0;
            greatest = Math.max(greatest, value);
        }
        numbers.empty();
        numbers.add(full);
        numbers.add(greatest);
        return sum;
    }

    public int with(int version, int value) {
        Tree tree = past.find(version);
        if (tree == null || value < 1 || value > MOST_VALUE) {
            return NONE;
        }
        numbers.empty();
        for (int k = 0; k < past.keys(); k++) {
            if (tree.valueOf(k) == value) {
                numbers.add(k);
            }
        }
        return numbers.size;
    }

    // ---- proofs

    public int proof(int version, int key) {
        Tree tree = past.find(version);
        if (tree == null || !past.hasKey(key)) {
            return NONE;
        }
        held.begin(key, tree.valueOf(key), 0);
        int at = past.keys() + key;
        for (int level = 0; level < past.depth; level++) {
            int beside = (at >> level) ^ 1;
            if (!tree.bareAt(beside)) {
                held.bits |= 1 << level;
                held.add(tree.markAt(beside));
            }
        }
        numbers.empty();
        tellHeld();
        return held.size;
    }

    public boolean alters(int what, int v) {
        if (!held.there) {
            return false;
        }
        if (what >= 3) {
            return held.change(what - 3, v);
        }
        if (what < 0 || v < 0 || v > (what == 1 ? MOST_VALUE : MOST_BYTE)) {
            return false;
        }
        if (what == 0) {
            held.key = v;
        } else if (what == 1) {
            held.value = v;
        } else {
            held.bits = v;
        }
        return true;
    }

    public int told() {
        int fault = readProof();
        text.size = 0;
        if (fault != NONE) {
            return -1 - fault;
        }
        held.take(heard);
        return held.size;
    }

    public int hand() {
        if (!held.there) {
            return NOTHING;
        }
        numbers.empty();
        numbers.add(held.key);
        tellHeld();
        return held.size;
    }

    public int accepts(int version) {
        Tree tree = past.find(version);
        if (tree == null) {
            return NONE;
        }
        if (!held.there) {
            return NOTHING;
        }
        boolean known = past.hasKey(held.key);
        int reached = known ? held.climb(past.depth) : 0;
        numbers.empty();
        numbers.add(reached);
        return known && reached == tree.markAt(1) ? 1 : 0;
    }

    public int accepted() {
        if (!held.there) {
            return NOTHING;
        }
        boolean known = past.hasKey(held.key);
        int reached = held.climb(past.depth);
        numbers.empty();
        for (int version = past.first; version <= past.latest; version++) {
            if (known && reached == past.hold(version).markAt(1)) {
                numbers.add(version);
            }
        }
        return numbers.size;
    }

    public int bare(int version, int key) {
        Tree tree = past.find(version);
        if (tree == null || !past.hasKey(key)) {
            return NONE;
        }
        if (tree.valueOf(key) > 0) {
            return NOTHING;
        }
        int at = past.keys() + key;
        int level = 0;
        for (int above = at >> 1; above >= 1 && tree.bareAt(above); above >>= 1) {
            at = above;
            level++;
        }
        numbers.empty();
        numbers.add((key >> level) << level);
        numbers.add(1 << level);
        numbers.add(tree.besideFrom(at));
        return level;
    }

    public int together(int version) {
        Tree tree = past.find(version);
        int fault = readKeys();
        text.size = 0;
        if (tree == null) {
            return -200;
        }
        if (fault != NONE) {
            return -1 - fault;
        }
        int marks = 0;
        for (int k = 0; k < past.keys(); k++) {
            if (chosen.has(k)) {
                marks += tree.besideFrom(past.keys() + k);
            }
        }
        numbers.empty();
        numbers.add(marks);
        numbers.add(chosen.work());
        return needed(tree);
    }

    public int others(int version, int key) {
        Tree tree = past.find(version);
        if (tree == null || tree.valueOf(key) == 0) {
            return NONE;
        }
        chosen.take(tree.full);
        chosen.change(key, -1);
        numbers.empty();
        for (int level = 0; level < past.depth; level++) {
            int start = 1 << (past.depth - level);
            for (int at = start; at < 2 * start; at++) {
                if (isNeeded(tree, at)) {
                    numbers.add(tree.markAt(at));
                }
            }
        }
        return numbers.size;
    }

    public int path(int version, int key) {
        Tree tree = past.find(version);
        if (tree == null || !past.hasKey(key)) {
            return NONE;
        }
        int least = past.depth + 1;
        int at = past.keys() + key;
        numbers.empty();
        for (int level = 0; level <= past.depth; level++) {
            numbers.add(tree.markAt(at >> level));
            if (least > past.depth && !tree.bareAt(at >> level)) {
                least = level;
            }
        }
        return least;
    }

    public int stretch(int version, int from, int to) {
        Tree tree = past.find(version);
        if (tree == null || !past.hasStretch(from, to)) {
            return NONE;
        }
        numbers.empty();
        for (int k = from; k <= to; k += 1 << widestLevel(k, to)) {
            int level = widestLevel(k, to);
            numbers.add(1000 * level + (k >> level));
        }
        int count = numbers.size;
        chosen.clear(past.depth);
        for (int k = from; k <= to; k++) {
            chosen.change(k, 1);
        }
        // a sibling beside a lower node lies inside the stretch, so only those asked for are left
        numbers.add(needed(tree));
        return count;
    }

    public int forks(int version, int key, int other) {
        Tree tree = past.find(version);
        if (tree == null || !past.hasKey(key) || !past.hasKey(other)) {
            return NONE;
        }
        int level = 0;
        for (int unlike = key ^ other; unlike > 0; unlike >>= 1) {
            level++;
        }
        numbers.empty();
        numbers.add(tree.full.under((past.keys() + key) >> level));
        numbers.add((key >> level) << level);
        return level;
    }

    // ---- versions

    public int shared(int version, int other) {
        Tree one = past.find(version);
        Tree two = past.find(other);
        if (one == null || two == null) {
            return NONE;
        }
        chooseUnlike(one, two);
        int end = 2 * past.keys();
        int count = 0;
        for (int at = 1; at < end; at++) {
            if (!one.bareAt(at) && chosen.under(at) == 0) {
                count++;
            }
        }
        numbers.empty();
        numbers.add(one.full.nodesIn(1, end) - count);
        numbers.add(two.full.nodesIn(1, end) - count);
        return count;
    }

    public int differ(int version, int other) {
        Tree one = past.find(version);
        Tree two = past.find(other);
        if (one == null || two == null) {
            return NONE;
        }
        numbers.empty();
        for (int k = 0; k < past.keys(); k++) {
            if (one.valueOf(k) != two.valueOf(k)) {
                numbers.add(k);
            }
        }
        return numbers.size;
    }

    public int looks(int version, int other) {
        Tree one = past.find(version);
        Tree two = past.find(other);
        if (one == null || two == null) {
            return NONE;
        }
        chooseUnlike(one, two);
        return 1 + 2 * chosen.nodesIn(1, past.keys());
    }

    public int all() {
        int end = 2 * past.keys();
        int unlike = past.hold(past.first).full.nodesIn(1, end);
        int every = unlike;
        for (int version = past.first + 1; version <= past.latest; version++) {
            every += past.hold(version).full.nodesIn(1, end);
            unlike += newNodes(version);
        }
        numbers.empty();
        numbers.add(every);
        return unlike;
    }

    public int history(int key) {
        if (!past.hasKey(key)) {
            return NONE;
        }
        int value = past.hold(past.first).valueOf(key);
        numbers.empty();
        numbers.add(past.first);
        numbers.add(value);
        int count = 0;
        for (int version = past.first + 1; version <= past.latest; version++) {
            int next = past.hold(version).valueOf(key);
            if (next != value) {
                numbers.add(version);
                numbers.add(next);
                count++;
            }
            value = next;
        }
        return count;
    }

    public int hot() {
        int hottest = NONE;
        int most = 0;
        for (int k = 0; k < past.keys(); k++) {
            int changes = changesOf(k);
            if (changes > most) {
                hottest = k;
                most = changes;
            }
        }
        if (hottest == NONE) {
            return NOTHING;
        }
        numbers.empty();
        numbers.add(most);
        return hottest;
    }

    public int would(int version, int key, int v) {
        Tree tree = past.find(version);
        if (tree == null || !past.hasKey(key) || v < 0 || v > MOST_VALUE) {
            return NONE;
        }
        draft.take(tree);
        draft.place(key, v);
        int changed = 0;
        for (int at = past.keys() + key; at >= 1; at >>= 1) {
            if (draft.markAt(at) != tree.markAt(at)) {
                changed++;
            }
        }
        numbers.empty();
        numbers.add(draft.markAt(1));
        numbers.add(changed);
        return draft.full.size();
    }

    public int against(int version, int other, int of) {
        Tree one = past.find(version);
        Tree two = past.find(other);
        Tree base = past.find(of);
        if (one == null || two == null || base == null) {
            return NONE;
        }
        numbers.empty();
        for (int k = 0; k < past.keys(); k++) {
            if (isDisputed(one.valueOf(k), two.valueOf(k), base.valueOf(k))) {
                numbers.add(k);
            }
        }
        return numbers.size;
    }

    public int versions() {
        numbers.empty();
        numbers.add(past.first);
        numbers.add(past.latest);
        return past.kept();
    }

    public int since(int key) {
        if (!past.hasKey(key)) {
            return NONE;
        }
        int now = past.newest().valueOf(key);
        for (int version = past.latest - 1; version >= past.first; version--) {
            int value = past.hold(version).valueOf(key);
            if (value != now) {
                numbers.empty();
                numbers.add(value);
                return version;
            }
        }
        return NOTHING;
    }

    // ---- changes

    public int puts(int key, int v) {
        if (!past.hasKey(key) || v < 0 || v > MOST_VALUE) {
            return NONE;
        }
        draft.take(past.newest());
        draft.place(key, v);
        return settle(TOO_MANY, NO_CHANGE);
    }

    public int moves(int key, int to) {
        if (!past.hasKey(key) || !past.hasKey(to) || key == to) {
            return NONE;
        }
        Tree now = past.newest();
        if (now.valueOf(key) == 0) {
            return NOTHING;
        }
        if (now.valueOf(to) > 0) {
            return TAKEN;
        }
        draftExchange(now, key, to);
        return settle(TOO_MANY, NO_CHANGE);
    }

    public int flips(int mask) {
        if (mask < 1 || mask >= past.keys()) {
            return NONE;
        }
        Tree now = past.newest();
        draft.take(now);
        for (int k = 0; k < past.keys(); k++) {
            draft.place(k ^ mask, now.valueOf(k));
        }
        return settle(TOO_MANY, NO_CHANGE);
    }

    public int swaps(int key, int other) {
        if (!past.hasKey(key) || !past.hasKey(other) || key == other) {
            return NONE;
        }
        draftExchange(past.newest(), key, other);
        return settle(TOO_MANY, NO_CHANGE);
    }

    public int back(int version) {
        Tree tree = past.find(version);
        if (tree == null) {
            return NONE;
        }
        draft.take(tree);
        return settle(TOO_MANY, NO_CHANGE);
    }

    public int joins(int version, int other, int of) {
        Tree one = past.find(version);
        Tree two = past.find(other);
        Tree base = past.find(of);
        if (one == null || two == null || base == null) {
            return NONE;
        }
        int disputed = 0;
        draft.take(base);
        for (int k = 0; k < past.keys(); k++) {
            int was = base.valueOf(k);
            int first = one.valueOf(k);
            int second = two.valueOf(k);
            if (isDisputed(first, second, was)) {
                disputed++;
            }
            draft.place(k, first != was ? first : second);
        }
        if (disputed > 0) {
            numbers.empty();
            numbers.add(disputed);
            return -4;
        }
        return settle(TOO_MANY, NO_CHANGE);
    }

    public int clears(int from, int to) {
        if (!past.hasStretch(from, to)) {
            return NONE;
        }
        draft.take(past.newest());
        for (int k = from; k <= to; k++) {
            draft.place(k, 0);
        }
        return settle(TOO_MANY, NO_CHANGE);
    }

    public int day() {
        int fault = checkDay();
        if (fault != NONE) {
            text.size = 0;
            return -1 - fault;
        }
        text.rewind();
        int done = 0;
        boolean stopped = false;
        for (int i = 0; i < MOST_SIGNS && !stopped && text.more(); i++) {
            if (doAct() < 0) {
                stopped = true;
            } else {
                done++;
            }
        }
        text.size = 0;
        numbers.empty();
        numbers.add(stopped ? 1 : 0);
        numbers.add(past.latest);
        return done;
    }

    public int undo() {
        if (past.kept() <= 1) {
            return NONE;
        }
        past.latest--;
        return past.latest;
    }

    public int years(int seed, int n) {
        if (n < 1 || n > MOST_YEARS) {
            return NONE;
        }
        // the years are lived in the draft alone: they are told, and then forgotten
        draft.take(past.newest());
        int r = seed;
        for (int i = 0; i < n; i++) {
            r = nextDraw(r);
            int key = part(r, past.keys());
            r = nextDraw(r);
            int value = 0;
            if (part(r, 4) != 0) {
                r = nextDraw(r);
                value = part(r, MOST_VALUE) + 1;
            }
            if (draft.valueOf(key) > 0 || draft.full.size() < MOST_FULL) {
                draft.place(key, value);
            }
        }
        numbers.empty();
        numbers.add(draft.markAt(1));
        numbers.add(draft.full.nodesIn(1, 2 * past.keys()));
        return draft.full.size();
    }

    // ---- kept

    public boolean keep(int i) {
        if (i < 0 || i >= SLOTS) {
            return false;
        }
        if (slots[i] == null) {
            slots[i] = new History();
        }
        slots[i].take(past);
        return true;
    }

    public boolean again(int i) {
        if (i < 0 || i >= SLOTS || slots[i] == null) {
            return false;
        }
        past.take(slots[i]);
        held.there = false;
        return true;
    }

    public int count(int what) {
        switch (what) {
            case 0:
                return past.depth;
            case 1:
                return past.keys();
            case 2:
                return past.latest;
            case 3:
                return past.kept();
            case 4:
                return past.newest().full.size();
            case 5:
                return past.newest().total();
            case 6:
                return held.there ? 1 : 0;
            case 7:
                return numbers.size;
            case 8:
                return text.size;
            default:
                return NONE;
        }
    }

    public long row(int i) throws NoSuchElementException {
        if (i < 0 || i >= numbers.size || i >= MOST_ROW) {
            throw new NoSuchElementException();
        }
        return numbers.cells[i];
    }

    // ---- reading THE TEXT: each answers the place of the sign that can't stand there, or NONE

    private int readMap() {
        text.rewind();
        int depth = text.digit();
        if (depth < LEAST_DEPTH || depth > MOST_DEPTH) {
            text.fail(0);
            return text.fault;
        }
        text.at++;
        draft.clear(depth);
        chosen.clear(depth);
        for (int i = 0; i < MOST_SIGNS && text.more(); i++) {
            if (chosen.size() == MOST_FULL) {
                text.fail(text.at);
            }
            text.must(',');
            readPair(false);
        }
        return text.fault;
    }

    private int readBatch() {
        text.rewind();
        draft.take(past.newest());
        chosen.clear(past.depth);
        readPair(true);
        for (int i = 0; i < MOST_SIGNS && text.more(); i++) {
            text.must(',');
            readPair(true);
        }
        return text.fault;
    }

    private int readKeys() {
        text.rewind();
        chosen.clear(past.depth);
        readNewKey();
        for (int i = 0; i < MOST_SIGNS && text.more(); i++) {
            text.must(',');
            readNewKey();
        }
        return text.fault;
    }

    private void readPair(boolean mayBeZero) {
        int key = readNewKey();
        text.must('=');
        int value = (int) text.digits(3);
        if (value == 0 && !mayBeZero) {
            text.fail(text.at - 1);
        }
        draft.place(key, value);
    }

    private int readNewKey() {
        int key = (int) text.digits(3);
        if (key >= chosen.keys() || chosen.has(key)) {
            text.fail(text.at - 1);
        }
        chosen.change(key, 1);
        return key;
    }

    private int readProof() {
        text.rewind();
        int key = readByte();
        text.must('=');
        int value = (int) text.digits(3);
        text.must(':');
        heard.begin(key, value, readByte());
        for (int i = 0; i < MOST_SIGNS && text.more(); i++) {
            if (heard.size == MOST_DEPTH) {
                text.fail(text.at);
            }
            text.must(':');
            heard.add(readMark());
        }
        return text.fault;
    }

    private int readByte() {
        int number = (int) text.digits(3);
        if (number > MOST_BYTE) {
            text.fail(text.at - 1);
        }
        return number;
    }

    private int readMark() {
        boolean below = text.pass('-');
        long size = text.digits(10);
        long mark = below ? -size : size;
        if (mark != (int) mark) {
            text.fail(text.at - 1);
        }
        return (int) mark;
    }

    private int checkDay() {
        text.rewind();
        for (int i = 0; i < MOST_SIGNS && text.more(); i++) {
            int letter = text.peek();
            if (letter == 'b') {
                text.at++;
                text.fixed(2);
            } else if (letter == 'p' || letter == 'm' || letter == 's' || letter == 'c') {
                text.at++;
                text.fixed(3);
                text.fixed(3);
            } else {
                text.fail(text.at);
            }
        }
        return text.fault;
    }

    private int doAct() {
        int letter = text.peek();
        text.at++;
        if (letter == 'b') {
            return back(text.fixed(2));
        }
        int one = text.fixed(3);
        int two = text.fixed(3);
        if (letter == 'p') {
            return puts(one, two);
        }
        if (letter == 'm') {
            return moves(one, two);
        }
        if (letter == 's') {
            return swaps(one, two);
        }
        return clears(one, two);
    }

    // ---- what the calls share

    /** Makes the draft the latest version, or answers why it can't be. */
    private int settle(int tooMany, int same) {
        if (draft.full.size() > MOST_FULL) {
            return tooMany;
        }
        if (draft.isAlike(past.hold(past.latest), 1)) {
            return same;
        }
        past.advance();
        past.hold(past.latest).take(draft);
        return past.latest;
    }

    private void draftExchange(Tree now, int key, int other) {
        draft.take(now);
        draft.place(key, now.valueOf(other));
        draft.place(other, now.valueOf(key));
    }

    private void tellHeld() {
        numbers.add(held.value);
        numbers.add(held.bits);
        for (int i = 0; i < held.size && i < MOST_DEPTH; i++) {
            numbers.add(held.marks[i]);
        }
    }

    private void chooseUnlike(Tree one, Tree two) {
        chosen.clear(past.depth);
        for (int k = 0; k < past.keys(); k++) {
            if (one.valueOf(k) != two.valueOf(k)) {
                chosen.change(k, 1);
            }
        }
    }

    private boolean isNeeded(Tree tree, int at) {
        return chosen.under(at) == 0 && chosen.under(at ^ 1) > 0 && !tree.bareAt(at);
    }

    private int needed(Tree tree) {
        int count = 0;
        for (int at = 2; at < 2 * past.keys(); at++) {
            if (isNeeded(tree, at)) {
                count++;
            }
        }
        return count;
    }

    /** How many nodes of a version that are not bare no earlier kept version has. */
    private int newNodes(int version) {
        Tree tree = past.hold(version);
        chooseUnlike(past.hold(version - 1), tree);
        int count = 0;
        for (int at = 1; at < 2 * past.keys(); at++) {
            // where no key is unlike, the version ahead has the node already
            if (!tree.bareAt(at) && chosen.under(at) > 0 && !wasBefore(version - 1, tree, at)) {
                count++;
            }
        }
        return count;
    }

    private boolean wasBefore(int version, Tree tree, int at) {
        for (int earlier = past.first; earlier < version; earlier++) {
            if (past.hold(earlier).isAlike(tree, at)) {
                return true;
            }
        }
        return false;
    }

    private int changesOf(int key) {
        int count = 0;
        int was = past.hold(past.first).valueOf(key);
        for (int version = past.first + 1; version <= past.latest; version++) {
            int value = past.hold(version).valueOf(key);
            if (value != was) {
                count++;
            }
            was = value;
        }
        return count;
    }

    private static boolean isDisputed(int one, int two, int base) {
        return one != base && two != base && one != two;
    }

    /** The level of the greatest node that begins at a key and ends no later than another one. */
    private static int widestLevel(int key, int to) {
        int level = 0;
        for (int next = 1; next <= MOST_DEPTH; next++) {
            int width = 1 << next;
            if (level == next - 1 && (key & (width - 1)) == 0 && key + width - 1 <= to) {
                level = next;
            }
        }
        return level;
    }

    private static int sheetValue(int kind, int entry) {
        int value = kind == 0 ? (byte) entry : kind == 1 ? (short) entry : entry;
        return Math.max(0, Math.min(MOST_VALUE, value));
    }

    private static int nextDraw(int r) {
        return r * 1103515245 + 12345;
    }

    private static int part(int r, int n) {
        return n > 0 ? (r >>> 16) % n : 0;
    }

    private static int levelOf(int at, int depth) {
        int level = depth;
        for (int above = at >> 1; above > 0; above >>= 1) {
            level--;
        }
        return level;
    }

    private static int mix(int a, int b) {
        int x = (31 * a + b + 17) * -1640531535;
        return x ^ (x >>> 15);
    }

    private static int leafMark(int key, int value) {
        return value == 0 ? 0 : mix(key + 1, value);
    }

    /*
     * The nodes of a tree stand in rows by PLACE: the root at 1, and below a place p those at 2p and
     * 2p + 1, so that a key's own place is the number of keys and it, and place 0 stays unused.
     */

    /** A set of keys, that knows of each node how many of them are below it. */
    private static final class KeySet {
        private final int[] cells = new int[2 * MOST_KEYS];
        private int depth;

        private void clear(int newDepth) {
            depth = newDepth;
            Arrays.fill(cells, 0);
        }

        private void take(KeySet other) {
            depth = other.depth;
            System.arraycopy(other.cells, 0, cells, 0, cells.length);
        }

        private int keys() {
            return 1 << depth;
        }

        private int size() {
            return cells[1];
        }

        private int under(int at) {
            return at >= 1 && at < cells.length ? cells[at] : 0;
        }

        private boolean has(int key) {
            return key >= 0 && key < keys() && under(keys() + key) > 0;
        }

        private void change(int key, int by) {
            if (key < 0 || key >= keys()) {
                return;
            }
            for (int at = keys() + key; at >= 1 && at < cells.length; at >>= 1) {
                cells[at] += by;
            }
        }

        /** How many nodes with a key stand from one place to ahead of another one. */
        private int nodesIn(int from, int end) {
            int count = 0;
            for (int at = Math.max(from, 0); at < end && at < cells.length; at++) {
                if (cells[at] > 0) {
                    count++;
                }
            }
            return count;
        }

        private int work() {
            return nodesIn(1, keys()) + size();
        }
    }

    /** The values of one version, and the marks of its nodes. */
    private static final class Tree {
        private final int[] values = new int[MOST_KEYS];
        private final int[] marks = new int[2 * MOST_KEYS];
        private final KeySet full = new KeySet();

        private void clear(int depth) {
            full.clear(depth);
            Arrays.fill(values, 0);
            Arrays.fill(marks, 0);
            for (int at = full.keys() - 1; at >= 1; at--) {
                join(at);
            }
        }

        private void take(Tree other) {
            full.take(other.full);
            System.arraycopy(other.values, 0, values, 0, values.length);
            System.arraycopy(other.marks, 0, marks, 0, marks.length);
        }

        private int valueOf(int key) {
            return key >= 0 && key < full.keys() && key < values.length ? values[key] : 0;
        }

        private int markAt(int at) {
            return at >= 1 && at < marks.length ? marks[at] : 0;
        }

        private boolean bareAt(int at) {
            return full.under(at) == 0;
        }

        private int total() {
            int sum = 0;
            for (int k = 0; k < full.keys(); k++) {
                sum += valueOf(k);
            }
            return sum;
        }

        private void place(int key, int value) {
            int was = valueOf(key);
            if (key < 0 || key >= full.keys() || key >= values.length || value == was) {
                return;
            }
            values[key] = value;
            int by = (value > 0 ? 1 : 0) - (was > 0 ? 1 : 0);
            if (by != 0) {
                full.change(key, by);
            }
            int leaf = full.keys() + key;
            if (leaf < marks.length) {
                marks[leaf] = leafMark(key, value);
            }
            for (int at = leaf >> 1; at >= 1; at >>= 1) {
                join(at);
            }
        }

        private void join(int at) {
            if (at >= 1 && at < marks.length) {
                marks[at] = mix(markAt(2 * at), markAt(2 * at + 1));
            }
        }

        /** How many siblings of a node and of those above it are not bare. */
        private int besideFrom(int start) {
            int count = 0;
            for (int at = start; at > 1; at >>= 1) {
                if (!bareAt(at ^ 1)) {
                    count++;
                }
            }
            return count;
        }

        /** True if all values below a node are alike in another tree of the same depth. */
        private boolean isAlike(Tree other, int at) {
            // alike values have alike marks, but alike marks might be a chance
            if (markAt(at) != other.markAt(at)) {
                return false;
            }
            int level = levelOf(at, full.depth);
            int from = (at << level) - full.keys();
            for (int k = from; k < from + (1 << level); k++) {
                if (valueOf(k) != other.valueOf(k)) {
                    return false;
                }
            }
            return true;
        }
    }

    /** The versions that are kept, each in its own spot of a ring. */
    private static final class History {
        private final Tree[] ring = new Tree[MOST_VERSIONS];
        private int depth;
        private int first;
        private int latest;

        private int keys() {
            return 1 << depth;
        }

        private int kept() {
            return latest - first + 1;
        }

        private boolean hasKey(int key) {
            return key >= 0 && key < keys();
        }

        private boolean hasStretch(int from, int to) {
            return hasKey(from) && hasKey(to) && from <= to;
        }

        /** The tree of a version; null if it is not kept. */
        private Tree find(int version) {
            return version >= first && version <= latest ? hold(version) : null;
        }

        private Tree newest() {
            return hold(latest);
        }

        private Tree hold(int version) {
            int spot = Math.floorMod(version, MOST_VERSIONS);
            if (ring[spot] == null) {
                ring[spot] = new Tree();
            }
            return ring[spot];
        }

        private void begin(Tree tree) {
            depth = tree.full.depth;
            first = 0;
            latest = 0;
            hold(0).take(tree);
        }

        private void advance() {
            latest++;
            first = Math.max(first, latest - MOST_VERSIONS + 1);
        }

        private void take(History other) {
            depth = other.depth;
            first = other.first;
            latest = other.latest;
            // copied, as rows are used again: a version kept must not change with the ring
            for (int i = 0; i < MOST_VERSIONS && first + i <= latest; i++) {
                hold(first + i).take(other.hold(first + i));
            }
        }
    }

    /** A proof, that may be altered or made up. */
    private static final class Proof {
        private final int[] marks = new int[MOST_DEPTH];
        private boolean there;
        private int key;
        private int value;
        private int bits;
        private int size;

        private void begin(int newKey, int newValue, int newBits) {
            there = true;
            key = newKey;
            value = newValue;
            bits = newBits;
            size = 0;
        }

        private void take(Proof other) {
            begin(other.key, other.value, other.bits);
            size = other.size;
            System.arraycopy(other.marks, 0, marks, 0, marks.length);
        }

        private void add(int mark) {
            if (size >= 0 && size < marks.length) {
                marks[size] = mark;
                size++;
            }
        }

        private int markOf(int i) {
            return i >= 0 && i < size && i < marks.length ? marks[i] : 0;
        }

        private boolean change(int i, int mark) {
            if (i < 0 || i >= size || i >= marks.length) {
                return false;
            }
            marks[i] = mark;
            return true;
        }

        /** The mark to which one comes at the root of a tree of a depth. */
        private int climb(int depth) {
            int mark = leafMark(key, value);
            int bareMark = 0;
            int used = 0;
            for (int level = 0; level < depth; level++) {
                int beside = bareMark;
                if (((bits >> level) & 1) == 1) {
                    beside = markOf(used);
                    used++;
                }
                mark = ((key >> level) & 1) == 0 ? mix(mark, beside) : mix(beside, mark);
                bareMark = mix(bareMark, bareMark);
            }
            return mark;
        }
    }

    /** The numbers told last. */
    private static final class Row {
        private final long[] cells = new long[MOST_ROW];
        private int size;

        private void empty() {
            size = 0;
        }

        private void add(long number) {
            if (size >= 0 && size < cells.length) {
                cells[size] = number;
                size++;
            }
        }
    }

    /** THE TEXT, and how far it is read: the first sign that can't stand where it does is the fault. */
    private static final class Text {
        private final char[] signs = new char[MOST_SIGNS];
        private int size;
        private int at;
        private int fault;

        private void append(char sign) {
            if (size >= 0 && size < signs.length) {
                signs[size] = sign;
                size++;
            }
        }

        private void rewind() {
            at = 0;
            fault = NONE;
        }

        private void fail(int place) {
            if (fault == NONE) {
                fault = place;
            }
        }

        private boolean more() {
            return fault == NONE && at < size;
        }

        private int peek() {
            return at >= 0 && at < size && at < signs.length ? signs[at] : NONE;
        }

        private int digit() {
            int sign = peek();
            return sign >= '0' && sign <= '9' ? sign - '0' : NONE;
        }

        private boolean pass(char sign) {
            if (peek() != sign) {
                return false;
            }
            at++;
            return true;
        }

        private void must(char sign) {
            if (!pass(sign)) {
                fail(at);
            }
        }

        /** A number of one digit or more, as many as there are: one behind the most is a fault. */
        private long digits(int most) {
            int start = at;
            long number = 0;
            for (int i = 0; i < most && digit() != NONE; i++) {
                number = 10 * number + digit();
                at++;
            }
            if (at == start || digit() != NONE) {
                fail(at);
            }
            return number;
        }

        /** A number of just so many digits. */
        private int fixed(int length) {
            int number = 0;
            for (int i = 0; i < length && fault == NONE; i++) {
                int digit = digit();
                if (digit == NONE) {
                    fail(at);
                } else {
                    number = 10 * number + digit;
                    at++;
                }
            }
            return number;
        }
    }
}
