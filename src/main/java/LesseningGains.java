import java.util.Arrays;

/** Submodular set functions on up to six elements. A set is an int whose bit i stands for element i. */
public final class LesseningGains {
    public static final int NONE = -1, BAD = -2, STATE = -3, NOT = -5, MISSING = -11;
    public static final long NO = Long.MIN_VALUE;

    private static final int OTHER_KIND = -15;
    private static final int NO_INDEX = -13;
    private static final int NEGATIVE_LENGTH = -14;
    /** Added to an error where an ordinary answer can be negative itself. */
    private static final int DEEP = -1000000;
    /** What a good answer of such a method is never below, and an error always is. */
    private static final int DEEPEST_GOOD = -999999;
    /** Keeps the answer of weighed apart from the errors. */
    private static final int WEIGHED_LIFT = 1000;
    private static final int FINE = 0;

    private static final int MOST_POINTS = 6;
    private static final int MOST_SETS = 64;
    private static final int POINTS_AT_FIRST = 4;
    private static final int FUNCTIONS = 6;
    private static final int ITEMS = 8;
    private static final int BLOCKS = 6;
    private static final int LISTS = 4;
    private static final int MOST_NUMBERS = 64;
    private static final int MOST_LOAD = 99;
    private static final int MOST_WORTH = 99;
    private static final int MOST_CAP = 6;
    private static final int MOST_WEIGHT = 99;
    private static final int MOST_VALUE = 999999;

    private static final int TOLD = 0;
    private static final int CUT = 1;
    private static final int COVERAGE = 2;
    private static final int CAPPED = 3;
    private static final int WEIGHED = 4;
    private static final int MADE = 5;
    private static final int KINDS = 6;
    private static final int NO_KIND = -1;
    /** The kind of which each kind is a subkind. */
    private static final int[] ABOVE = {NO_KIND, TOLD, TOLD, TOLD, CAPPED, CUT};

    private final World now;
    private final World saved;
    private boolean hasImage;
    private final NumberList[] lists;
    private final Tape tape;
    private final Paper sheet;
    private final Sequence sequence;
    /** The values of a function that is being made: kept apart, for the result may be one of its own sources. */
    private final int[] draft;
    private final int[] setWeights;
    private final int[] orderRow;

    public LesseningGains() {
        now = new World();
        saved = new World();
        hasImage = false;
        lists = new NumberList[LISTS];
        for (int i = 0; i < LISTS; i++) {
            lists[i] = new NumberList();
        }
        tape = new Tape();
        sheet = new Paper();
        sequence = new Sequence();
        draft = new int[MOST_SETS];
        setWeights = new int[MOST_SETS];
        orderRow = new int[MOST_POINTS];
    }

    // ---- elements and data

    public int points(int n) {
        if (n < 1 || n > MOST_POINTS) {
            return BAD;
        }
        int previous = now.n;
        now.startAnew(n);
        return previous;
    }

    public int arc(int i, int j, int v) {
        if (!now.hasPoint(i) || !now.hasPoint(j) || i == j) {
            return NONE;
        }
        if (v < 0 || v > MOST_LOAD) {
            return BAD;
        }
        int place = i * MOST_POINTS + j;
        int previous = now.loads[place];
        now.loads[place] = v;
        return previous;
    }

    public int item(int item, int v, int set) {
        if (item < 0 || item >= ITEMS) {
            return NONE;
        }
        if (v < 0 || v > MOST_WORTH || !now.hasSet(set)) {
            return BAD;
        }
        int previous = now.worths[item];
        now.worths[item] = v;
        now.itemSets[item] = set;
        return previous;
    }

    public int block(int point, int block) {
        if (!now.hasPoint(point) || !isBlock(block)) {
            return NONE;
        }
        int previous = now.blocks[point];
        now.blocks[point] = block;
        return previous;
    }

    public int cap(int block, int v) {
        if (!isBlock(block)) {
            return NONE;
        }
        if (v < 0 || v > MOST_CAP) {
            return BAD;
        }
        int previous = now.caps[block];
        now.caps[block] = v;
        return previous;
    }

    public int weight(int point, int v) {
        if (!now.hasPoint(point)) {
            return DEEP + NONE;
        }
        if (v < -MOST_WEIGHT || v > MOST_WEIGHT) {
            return DEEP + BAD;
        }
        int previous = now.weights[point];
        now.weights[point] = v;
        return previous;
    }

    // ---- functions

    public int tell(int f, int set, int v) {
        if (!isFunction(f)) {
            return DEEP + NONE;
        }
        if (!now.hasSet(set) || !isValue(v)) {
            return DEEP + BAD;
        }
        SetFunction told = now.functions[f];
        int previous = told.values[set];
        told.values[set] = v;
        told.kind = TOLD;
        return previous;
    }

    public int cut(int f) {
        return isFunction(f) ? setFromData(f, CUT, now.all() & ~1) : NONE;
    }

    public int cover(int f) {
        return isFunction(f) ? setFromData(f, COVERAGE, now.all()) : NONE;
    }

    public int capped(int f) {
        return isFunction(f) ? setFromData(f, CAPPED, now.all()) : NONE;
    }

    public int weighed(int f) {
        return isFunction(f) ? setFromData(f, WEIGHED, now.all()) + WEIGHED_LIFT : NONE;
    }

    public int sum(int f, int g, int to) {
        if (!isFunction(f) || !isFunction(g) || !isFunction(to)) {
            return NONE;
        }
        if (now.functions[f].isMissing() || now.functions[g].isMissing()) {
            return MISSING;
        }
        int[] left = now.functions[f].values;
        int[] right = now.functions[g].values;
        for (int set = 0; set < now.sets(); set++) {
            draft[set] = left[set] + right[set];
        }
        return settleIfInRange(to);
    }

    public int turn(int f, int to) {
        int error = errorOfPair(f, to);
        if (error != FINE) {
            return error;
        }
        int[] values = now.functions[f].values;
        for (int set = 0; set < now.sets(); set++) {
            draft[set] = values[now.all() & ~set];
        }
        return settleIfInRange(to);
    }

    public int cutBack(int f, int to) {
        int error = errorOfPair(f, to);
        if (error != FINE) {
            return error;
        }
        int[] values = now.functions[f].values;
        for (int set = 0; set < now.sets(); set++) {
            setWeights[set] = now.totalWeight(set);
        }
        for (int set = 0; set < now.sets(); set++) {
            draft[set] = leastOverSubsets(values, set);
        }
        return settleIfInRange(to);
    }

    public int part(int f, int set, int way, int to) {
        if (!isFunction(f) || !isFunction(to)) {
            return NONE;
        }
        if (!now.hasSet(set) || way < 0 || way > 1) {
            return BAD;
        }
        if (now.functions[f].isMissing()) {
            return MISSING;
        }
        int[] values = now.functions[f].values;
        for (int s = 0; s < now.sets(); s++) {
            draft[s] = way == 0 ? values[s & set] : values[s | set] - values[set];
        }
        return settleIfInRange(to);
    }

    public int held(int f, int v, int to) {
        if (!isFunction(f) || !isFunction(to)) {
            return NONE;
        }
        if (!isValue(v)) {
            return BAD;
        }
        if (now.functions[f].isMissing()) {
            return MISSING;
        }
        int[] values = now.functions[f].values;
        for (int set = 0; set < now.sets(); set++) {
            draft[set] = Math.min(values[set], v);
        }
        return settleIfInRange(to);
    }

    public int clear(int f) {
        int error = errorOf(f);
        if (error != FINE) {
            return error;
        }
        int kind = now.functions[f].kind;
        now.functions[f].vanish();
        return kind;
    }

    public int of(int f, int what) {
        if (!isFunction(f) || what < 0 || what > 4) {
            return NONE;
        }
        SetFunction asked = now.functions[f];
        if (asked.isMissing()) {
            return MISSING;
        }
        switch (what) {
            case 0:
                return asked.kind;
            case 1:
                return oneIf(asked.firstFailure(now.n) == NOT);
            case 2:
                return oneIf(asked.isIncreasing(now.n));
            case 3:
                return oneIf(asked.isSymmetric(now.n));
            default:
                return oneIf(asked.isModular(now.n));
        }
    }

    public int taken(int f, int k) {
        if (!isFunction(f) || k < 0 || k >= KINDS) {
            return NONE;
        }
        SetFunction asked = now.functions[f];
        if (asked.isMissing()) {
            return MISSING;
        }
        return isSubkind(asked.kind, k) ? asked.kind : OTHER_KIND;
    }

    public int value(int f, int set) {
        if (!isFunction(f)) {
            return DEEP + NONE;
        }
        if (!now.hasSet(set)) {
            return DEEP + BAD;
        }
        if (now.functions[f].isMissing()) {
            return DEEP + MISSING;
        }
        return now.functions[f].values[set];
    }

    public long gain(int f, int set, int point) {
        if (errorOf(f) != FINE || !now.hasSet(set) || !now.hasPoint(point) || holds(set, point)) {
            return NO;
        }
        return now.functions[f].gainAt(set, point);
    }

    public int fails(int f, int what) {
        if (!isFunction(f) || what < 0 || what > 2) {
            return NONE;
        }
        if (now.functions[f].isMissing()) {
            return MISSING;
        }
        int failure = now.functions[f].firstFailure(now.n);
        if (failure == NOT) {
            return NOT;
        }
        switch (what) {
            case 0:
                return SetFunction.setOfFailure(failure);
            case 1:
                return SetFunction.firstPointOfFailure(failure);
            default:
                return SetFunction.secondPointOfFailure(failure);
        }
    }

    // ---- bases

    public long base(int f, int order, int point) {
        if (errorOf(f) != FINE || !isOrder(order) || !now.hasPoint(point)) {
            return NO;
        }
        unrank(order);
        int before = 0;
        for (int k = 0; k < now.n && orderRow[k] != point; k++) {
            before |= 1 << orderRow[k];
        }
        return now.functions[f].gainAt(before, point);
    }

    public long negative(int f, int order) {
        if (errorOf(f) != FINE || !isOrder(order)) {
            return NO;
        }
        unrank(order);
        int before = 0;
        long total = 0;
        for (int k = 0; k < now.n; k++) {
            total += Math.min(0, now.functions[f].gainAt(before, orderRow[k]));
            before |= 1 << orderRow[k];
        }
        return total;
    }

    public int based(int f, int what) {
        int error = errorOfChoice(f, what);
        if (error != FINE) {
            return error;
        }
        int[] values = now.functions[f].values;
        boolean isBase = now.totalWeight(now.all()) == values[now.all()] - values[0];
        int tight = 0;
        int common = now.all();
        int together = 0;
        for (int set = 0; set < now.sets(); set++) {
            int room = values[set] - values[0] - now.totalWeight(set);
            if (room < 0) {
                isBase = false;
            }
            if (room == 0) {
                tight++;
                together |= set;
                common &= set == 0 ? now.all() : set;
            }
        }
        switch (what) {
            case 0:
                return oneIf(isBase);
            case 1:
                return tight;
            case 2:
                return common;
            default:
                return together;
        }
    }

    // ---- minimisers and the principal sequence

    public long least(int f) {
        if (errorOf(f) != FINE) {
            return NO;
        }
        return now.functions[f].leastValue(now.n);
    }

    public int leastSets(int f, int what) {
        int error = errorOfChoice(f, what);
        if (error != FINE) {
            return error;
        }
        SetFunction asked = now.functions[f];
        if (what == 3) {
            return oneIf(asked.minimisersAreClosed(now.n));
        }
        int lowest = asked.leastValue(now.n);
        int number = 0;
        int common = now.all();
        int together = 0;
        for (int set = 0; set < now.sets(); set++) {
            if (asked.values[set] == lowest) {
                number++;
                common &= set;
                together |= set;
            }
        }
        switch (what) {
            case 0:
                return number;
            case 1:
                return common;
            default:
                return together;
        }
    }

    public int ring(int f, int point) {
        if (!isFunction(f) || !now.hasPoint(point)) {
            return NONE;
        }
        SetFunction asked = now.functions[f];
        if (asked.isMissing()) {
            return MISSING;
        }
        int lowest = asked.leastValue(now.n);
        int common = now.all();
        boolean found = false;
        for (int set = 0; set < now.sets(); set++) {
            if (holds(set, point) && asked.values[set] == lowest) {
                found = true;
                common &= set;
            }
        }
        return found ? common : NOT;
    }

    public int level(int f, int i) {
        if (!isFunction(f) || i < -1) {
            return NONE;
        }
        if (now.functions[f].isMissing()) {
            return MISSING;
        }
        sequence.follow(now.functions[f].values, now.n);
        if (i == -1) {
            return sequence.members;
        }
        return i < sequence.members ? sequence.sets[i] : NOT;
    }

    public long height(int f, int i, int part) {
        if (errorOf(f) != FINE || part < 0 || part > 1) {
            return NO;
        }
        sequence.follow(now.functions[f].values, now.n);
        if (i < 0 || i >= sequence.members) {
            return NO;
        }
        int divisor = sequence.commonDivisor(i);
        int whole = part == 0 ? sequence.rises[i] : sequence.sizes[i];
        return divisor == 0 ? NO : whole / divisor;
    }

    // ---- cuts, choices

    public int wall(int f, int s, int t) {
        if (!isFunction(f) || !now.hasPoint(s) || !now.hasPoint(t) || s == t) {
            return NONE;
        }
        if (now.functions[f].isMissing()) {
            return MISSING;
        }
        return now.functions[f].leastApart(now.n, s, t);
    }

    public long wallValue(int f, int s, int t) {
        if (errorOf(f) != FINE || !now.hasPoint(s) || !now.hasPoint(t) || s == t) {
            return NO;
        }
        return now.functions[f].values[now.functions[f].leastApart(now.n, s, t)];
    }

    public int most(int f, int k, int way) {
        if (!isFunction(f) || way < 0 || way > 1) {
            return NONE;
        }
        if (k < 0 || k > now.n) {
            return BAD;
        }
        SetFunction asked = now.functions[f];
        if (asked.isMissing()) {
            return MISSING;
        }
        return way == 0 ? asked.greedyChoice(now.n, k) : asked.bestChoice(now.n, k);
    }

    // ---- texts

    public int feed(int letter) {
        if (letter < 1 || letter > 127) {
            return BAD;
        }
        if (tape.isFull()) {
            return STATE;
        }
        tape.append(letter);
        return tape.length;
    }

    public int deeds() {
        int error = tape.parse();
        tape.length = 0;
        if (error != Tape.NO_ERROR) {
            return -100 - error;
        }
        int good = 0;
        for (int c = 0; c < tape.commands; c++) {
            if (obey(c)) {
                good++;
            }
        }
        return good;
    }

    public int write(int f) {
        int error = errorOf(f);
        if (error != FINE) {
            return error;
        }
        sheet.length = 0;
        for (int set = 0; set < now.sets(); set++) {
            if (set > 0) {
                sheet.append(' ');
            }
            sheet.appendNumber(now.functions[f].values[set]);
        }
        return sheet.length;
    }

    public int paper(int i) {
        if (i < 0 || i >= sheet.length) {
            return NONE;
        }
        return sheet.bytes[i];
    }

    // ---- lists, image

    public int list(int list, int n) {
        if (!isList(list)) {
            return NONE;
        }
        if (n > MOST_NUMBERS) {
            return BAD;
        }
        if (n < 0) {
            return NEGATIVE_LENGTH;
        }
        Arrays.fill(lists[list].numbers, 0);
        lists[list].length = n;
        return 1;
    }

    public int put(int list, int i, int v) {
        if (!isList(list)) {
            return NONE;
        }
        if (lists[list].isMissing()) {
            return MISSING;
        }
        if (i < 0 || i >= lists[list].length) {
            return NO_INDEX;
        }
        lists[list].numbers[i] = v;
        return 1;
    }

    public long get(int list, int i) {
        if (!isList(list) || i < 0 || i >= lists[list].length) {
            return NO;
        }
        return lists[list].numbers[i];
    }

    public int lay(int f, int list) {
        if (!isFunction(f) || !isList(list)) {
            return NONE;
        }
        NumberList source = lists[list];
        if (source.isMissing()) {
            return MISSING;
        }
        if (source.length > now.sets() || !allInRange(source.numbers, source.length)) {
            return STATE;
        }
        for (int set = 0; set < now.sets(); set++) {
            draft[set] = set < source.length ? source.numbers[set] : 0;
        }
        settle(f, TOLD);
        return source.length;
    }

    public int judge(int list, int f) {
        if (!isList(list) || !isFunction(f)) {
            return NONE;
        }
        if (lists[list].isMissing() || now.functions[f].isMissing()) {
            return MISSING;
        }
        int[] values = now.functions[f].values;
        for (int i = 0; i < lists[list].length; i++) {
            if (i >= now.sets() || lists[list].numbers[i] != values[i]) {
                return i;
            }
        }
        return NOT;
    }

    public int image() {
        saved.copyFrom(now);
        hasImage = true;
        return now.presentFunctions();
    }

    public int back() {
        if (!hasImage) {
            return STATE;
        }
        now.copyFrom(saved);
        return now.presentFunctions();
    }

    public int count(int what) {
        switch (what) {
            case 0:
                return now.n;
            case 1:
                return now.presentFunctions();
            case 2:
                return nonZero(now.loads);
            case 3:
                return nonZero(now.worths);
            case 4:
                return tape.length;
            case 5:
                return sheet.length;
            default:
                return BAD;
        }
    }

    // ---- what the methods above share

    private static boolean isFunction(int f) {
        return f >= 0 && f < FUNCTIONS;
    }

    private static boolean isBlock(int block) {
        return block >= 0 && block < BLOCKS;
    }

    private static boolean isList(int list) {
        return list >= 0 && list < LISTS;
    }

    private static boolean isValue(int v) {
        return v >= -MOST_VALUE && v <= MOST_VALUE;
    }

    private static boolean holds(int set, int point) {
        return (set >> point & 1) == 1;
    }

    private static int oneIf(boolean holdsTrue) {
        return holdsTrue ? 1 : 0;
    }

    private static int nonZero(int[] numbers) {
        int found = 0;
        for (int number : numbers) {
            if (number != 0) {
                found++;
            }
        }
        return found;
    }

    private static boolean allInRange(int[] numbers, int length) {
        for (int i = 0; i < length && i < numbers.length; i++) {
            if (!isValue(numbers[i])) {
                return false;
            }
        }
        return true;
    }

    private static boolean isSubkind(int kind, int given) {
        int k = kind;
        for (int step = 0; step < KINDS && k >= 0 && k < KINDS; step++) {
            if (k == given) {
                return true;
            }
            k = ABOVE[k];
        }
        return false;
    }

    private int errorOf(int f) {
        if (!isFunction(f)) {
            return NONE;
        }
        return now.functions[f].isMissing() ? MISSING : FINE;
    }

    private int errorOfPair(int f, int to) {
        return isFunction(to) ? errorOf(f) : NONE;
    }

    private int errorOfChoice(int f, int what) {
        return what < 0 || what > 3 ? NONE : errorOf(f);
    }

    /** Sets a function of a kind that comes from the data; answers its value of the set asked for. */
    private int setFromData(int f, int kind, int asked) {
        for (int set = 0; set < now.sets(); set++) {
            draft[set] = now.valueFromData(kind, set);
        }
        settle(f, kind);
        return draft[asked];
    }

    private int leastOverSubsets(int[] values, int set) {
        int lowest = values[set];
        for (int sub = 0; sub < set; sub++) {
            if ((sub & ~set) == 0) {
                lowest = Math.min(lowest, values[sub] + setWeights[set & ~sub]);
            }
        }
        return lowest;
    }

    private int settleIfInRange(int to) {
        if (!allInRange(draft, now.sets())) {
            return STATE;
        }
        settle(to, MADE);
        return 1;
    }

    private void settle(int to, int kind) {
        SetFunction result = now.functions[to];
        System.arraycopy(draft, 0, result.values, 0, now.sets());
        result.kind = kind;
    }

    private static int factorial(int n) {
        int product = 1;
        for (int i = 2; i <= n; i++) {
            product *= i;
        }
        return product;
    }

    private boolean isOrder(int order) {
        return order >= 0 && order < factorial(now.n);
    }

    /** Writes the order of the given number into orderRow. */
    private void unrank(int order) {
        int rest = order;
        int used = 0;
        for (int k = 0; k < now.n; k++) {
            int ordersBehind = factorial(now.n - 1 - k);
            boolean placed = false;
            for (int p = 0; p < now.n && !placed; p++) {
                if (holds(used, p)) {
                    continue;
                }
                if (rest < ordersBehind) {
                    orderRow[k] = p;
                    used |= 1 << p;
                    placed = true;
                } else {
                    rest -= ordersBehind;
                }
            }
        }
    }

    /** Executes a parsed command and tells whether it reported no error. */
    private boolean obey(int c) {
        int x = tape.number(c, 0);
        int y = tape.number(c, 1);
        int z = tape.number(c, 2);
        switch (tape.words[c]) {
            case Tape.ARC:
                return arc(x, y, z) >= 0;
            case Tape.ITEM:
                return item(x, y, z) >= 0;
            case Tape.BLOCK:
                return block(x, y) >= 0;
            case Tape.CAP:
                return cap(x, y) >= 0;
            case Tape.WEIGHT:
                return weight(x, y) >= DEEPEST_GOOD;
            case Tape.CUT_WORD:
                return cut(x) >= 0;
            case Tape.COVER:
                return cover(x) >= 0;
            case Tape.CAPPED_WORD:
                return capped(x) >= 0;
            case Tape.WEIGHED_WORD:
                return weighed(x) >= 0;
            case Tape.SUM:
                return sum(x, y, z) >= 0;
            case Tape.TURN:
                return turn(x, y) >= 0;
            default:
                return false;
        }
    }

    /** A value for each set and a kind. While it is missing, all its values are 0, as tell wants them. */
    private static final class SetFunction {
        int kind = NO_KIND;
        final int[] values = new int[MOST_SETS];

        boolean isMissing() {
            return kind == NO_KIND;
        }

        void vanish() {
            kind = NO_KIND;
            Arrays.fill(values, 0);
        }

        void copyFrom(SetFunction other) {
            kind = other.kind;
            System.arraycopy(other.values, 0, values, 0, MOST_SETS);
        }

        int gainAt(int set, int point) {
            return values[set | 1 << point] - values[set];
        }

        /** The first counterexample to submodularity as one number, or NOT. */
        int firstFailure(int n) {
            for (int set = 0; set < 1 << n; set++) {
                for (int i = 0; i < n; i++) {
                    for (int j = 0; j < n; j++) {
                        if (gainGrows(set, i, j)) {
                            return set | i << 8 | j << 16;
                        }
                    }
                }
            }
            return NOT;
        }

        private boolean gainGrows(int set, int i, int j) {
            if (i == j || holds(set, i) || holds(set, j)) {
                return false;
            }
            return gainAt(set, i) < gainAt(set | 1 << j, i);
        }

        static int setOfFailure(int failure) {
            return failure & 255;
        }

        static int firstPointOfFailure(int failure) {
            return failure >> 8 & 255;
        }

        static int secondPointOfFailure(int failure) {
            return failure >> 16 & 255;
        }

        boolean isIncreasing(int n) {
            for (int set = 0; set < 1 << n; set++) {
                for (int p = 0; p < n; p++) {
                    if (gainAt(set, p) < 0) {
                        return false;
                    }
                }
            }
            return true;
        }

        boolean isSymmetric(int n) {
            int all = (1 << n) - 1;
            for (int set = 0; set <= all; set++) {
                if (values[set] != values[all & ~set]) {
                    return false;
                }
            }
            return true;
        }

        boolean isModular(int n) {
            for (int set = 0; set < 1 << n; set++) {
                for (int p = 0; p < n; p++) {
                    if (!holds(set, p) && gainAt(set, p) != gainAt(0, p)) {
                        return false;
                    }
                }
            }
            return true;
        }

        int leastValue(int n) {
            int lowest = values[0];
            for (int set = 1; set < 1 << n; set++) {
                lowest = Math.min(lowest, values[set]);
            }
            return lowest;
        }

        boolean minimisersAreClosed(int n) {
            int lowest = leastValue(n);
            for (int a = 0; a < 1 << n; a++) {
                for (int b = 0; b < a && values[a] == lowest; b++) {
                    if (values[b] == lowest && (values[a & b] != lowest || values[a | b] != lowest)) {
                        return false;
                    }
                }
            }
            return true;
        }

        /** The minimum cut between two different elements. */
        int leastApart(int n, int s, int t) {
            int best = 1 << s;
            // Upwards, so that the lowest of equals is found first.
            for (int set = 0; set < 1 << n; set++) {
                if (holds(set, s) && !holds(set, t) && isSmallerCut(set, best)) {
                    best = set;
                }
            }
            return best;
        }

        private boolean isSmallerCut(int set, int best) {
            if (values[set] != values[best]) {
                return values[set] < values[best];
            }
            return Integer.bitCount(set) < Integer.bitCount(best);
        }

        int greedyChoice(int n, int k) {
            int chosen = 0;
            for (int step = 0; step < k; step++) {
                int best = NONE;
                for (int p = 0; p < n; p++) {
                    if (!holds(chosen, p) && (best == NONE || gainAt(chosen, p) > gainAt(chosen, best))) {
                        best = p;
                    }
                }
                if (best != NONE) {
                    chosen |= 1 << best;
                }
            }
            return chosen;
        }

        int bestChoice(int n, int k) {
            int best = (1 << k) - 1;
            // The first k elements are the lowest set of this size: only a greater value beats it.
            for (int set = 0; set < 1 << n; set++) {
                if (Integer.bitCount(set) == k && values[set] > values[best]) {
                    best = set;
                }
            }
            return best;
        }
    }

    /** All that an image saves: the elements, the data and the functions. */
    private static final class World {
        int n;
        final int[] loads = new int[MOST_POINTS * MOST_POINTS];
        final int[] worths = new int[ITEMS];
        final int[] itemSets = new int[ITEMS];
        final int[] blocks = new int[MOST_POINTS];
        final int[] caps = new int[BLOCKS];
        final int[] weights = new int[MOST_POINTS];
        final SetFunction[] functions = new SetFunction[FUNCTIONS];
        private final int[] blockSizes = new int[BLOCKS];

        World() {
            for (int f = 0; f < FUNCTIONS; f++) {
                functions[f] = new SetFunction();
            }
            startAnew(POINTS_AT_FIRST);
        }

        void startAnew(int points) {
            n = points;
            Arrays.fill(loads, 0);
            Arrays.fill(worths, 0);
            Arrays.fill(itemSets, 0);
            Arrays.fill(blocks, 0);
            Arrays.fill(caps, 1);
            Arrays.fill(weights, 0);
            for (int f = 0; f < FUNCTIONS; f++) {
                functions[f].vanish();
            }
        }

        void copyFrom(World other) {
            n = other.n;
            System.arraycopy(other.loads, 0, loads, 0, MOST_POINTS * MOST_POINTS);
            System.arraycopy(other.worths, 0, worths, 0, ITEMS);
            System.arraycopy(other.itemSets, 0, itemSets, 0, ITEMS);
            System.arraycopy(other.blocks, 0, blocks, 0, MOST_POINTS);
            System.arraycopy(other.caps, 0, caps, 0, BLOCKS);
            System.arraycopy(other.weights, 0, weights, 0, MOST_POINTS);
            for (int f = 0; f < FUNCTIONS; f++) {
                functions[f].copyFrom(other.functions[f]);
            }
        }

        int sets() {
            return 1 << n;
        }

        int all() {
            return (1 << n) - 1;
        }

        boolean hasPoint(int point) {
            return point >= 0 && point < n;
        }

        boolean hasSet(int set) {
            return set >= 0 && set <= all();
        }

        int presentFunctions() {
            int present = 0;
            for (int f = 0; f < FUNCTIONS; f++) {
                if (!functions[f].isMissing()) {
                    present++;
                }
            }
            return present;
        }

        int valueFromData(int kind, int set) {
            switch (kind) {
                case CUT:
                    return loadOut(set);
                case COVERAGE:
                    return worthMet(set);
                case CAPPED:
                    return cappedSize(set);
                default:
                    return totalWeight(set);
            }
        }

        private int loadOut(int set) {
            int total = 0;
            for (int i = 0; i < n; i++) {
                for (int j = 0; j < n; j++) {
                    if (holds(set, i) && !holds(set, j)) {
                        total += loads[i * MOST_POINTS + j];
                    }
                }
            }
            return total;
        }

        private int worthMet(int set) {
            int total = 0;
            for (int i = 0; i < ITEMS; i++) {
                if ((itemSets[i] & set) != 0) {
                    total += worths[i];
                }
            }
            return total;
        }

        private int cappedSize(int set) {
            Arrays.fill(blockSizes, 0);
            for (int p = 0; p < n; p++) {
                if (holds(set, p)) {
                    blockSizes[blocks[p]]++;
                }
            }
            int total = 0;
            for (int b = 0; b < BLOCKS; b++) {
                total += Math.min(blockSizes[b], caps[b]);
            }
            return total;
        }

        int totalWeight(int set) {
            int total = 0;
            for (int p = 0; p < n; p++) {
                if (holds(set, p)) {
                    total += weights[p];
                }
            }
            return total;
        }
    }

    /** The principal sequence: each member with the rise of the value and the number of additional elements. */
    private static final class Sequence {
        int members;
        final int[] sets = new int[MOST_POINTS];
        final int[] rises = new int[MOST_POINTS];
        final int[] sizes = new int[MOST_POINTS];

        void follow(int[] values, int n) {
            int all = (1 << n) - 1;
            int a = 0;
            members = 0;
            for (int step = 0; step < MOST_POINTS && a != all; step++) {
                int next = nextMember(values, a, all);
                sets[step] = next;
                rises[step] = values[next] - values[a];
                sizes[step] = Integer.bitCount(next & ~a);
                members++;
                a = next;
            }
        }

        private static int nextMember(int[] values, int a, int all) {
            int best = all;
            // Upwards, so that the lowest of equals is found first; no other set has as many elements as all.
            for (int set = 0; set < all; set++) {
                if ((set & a) == a && set != a && isBetter(values, a, set, best)) {
                    best = set;
                }
            }
            return best;
        }

        private static boolean isBetter(int[] values, int a, int set, int best) {
            int more = Integer.bitCount(set & ~a);
            int bestMore = Integer.bitCount(best & ~a);
            int quotient = (values[set] - values[a]) * bestMore;
            int bestQuotient = (values[best] - values[a]) * more;
            if (quotient != bestQuotient) {
                return quotient < bestQuotient;
            }
            return more > bestMore;
        }

        /** The greatest common divisor of a member's rise and size; the size is at most 6. */
        int commonDivisor(int member) {
            for (int d = MOST_POINTS; d > 1; d--) {
                if (rises[member] % d == 0 && sizes[member] % d == 0) {
                    return d;
                }
            }
            return 1;
        }
    }

    /** The bytes fed, and the program that they are. */
    private static final class Tape {
        static final int NO_ERROR = -1;
        static final int ARC = 0;
        static final int ITEM = 1;
        static final int BLOCK = 2;
        static final int CAP = 3;
        static final int WEIGHT = 4;
        static final int CUT_WORD = 5;
        static final int COVER = 6;
        static final int CAPPED_WORD = 7;
        static final int WEIGHED_WORD = 8;
        static final int SUM = 9;
        static final int TURN = 10;

        private static final int WORDS = TURN + 1;
        private static final int NO_WORD = -1;
        /** How many numbers follow each word. */
        private static final int[] NUMBERS = {3, 3, 2, 2, 2, 1, 1, 1, 1, 3, 2};
        private static final int MOST_BYTES = 100;
        private static final int MOST_DIGITS = 3;
        private static final int NUMBER_ROOM = 3;
        /** The shortest command and its semicolon take six bytes, so a full tape never has as many. */
        private static final int MOST_COMMANDS = 20;

        int length;
        int commands;
        final int[] words = new int[MOST_COMMANDS];
        private final int[] numbers = new int[MOST_COMMANDS * NUMBER_ROOM];
        private final byte[] bytes = new byte[MOST_BYTES];
        private int at;

        boolean isFull() {
            return length >= MOST_BYTES;
        }

        void append(int letter) {
            if (!isFull()) {
                bytes[length] = (byte) letter;
                length++;
            }
        }

        int number(int command, int k) {
            return numbers[command * NUMBER_ROOM + k];
        }

        /** Reads the whole tape as a program; answers NO_ERROR or the position of the syntax error. */
        int parse() {
            at = 0;
            commands = 0;
            while (commands < MOST_COMMANDS) {
                if (!readCommand(commands)) {
                    return at;
                }
                commands++;
                if (at >= length) {
                    return NO_ERROR;
                }
                if (bytes[at] != ';') {
                    return at;
                }
                at++;
            }
            return at;
        }

        /** Reads a command; if it is none, at is the position of the error. */
        private boolean readCommand(int command) {
            int end = endOfWord(at);
            int word = findWord(at, end);
            if (word == NO_WORD) {
                return false;
            }
            at = end;
            words[command] = word;
            for (int k = 0; k < NUMBERS[word]; k++) {
                if (!readNumber(command * NUMBER_ROOM + k)) {
                    return false;
                }
            }
            return true;
        }

        private boolean readNumber(int place) {
            if (!isNext(' ')) {
                return false;
            }
            at++;
            boolean minus = isNext('-');
            if (minus) {
                at++;
            }
            int digits = 0;
            int number = 0;
            while (digits < MOST_DIGITS && isDigitNext()) {
                number = number * 10 + bytes[at] - '0';
                digits++;
                at++;
            }
            numbers[place] = minus ? -number : number;
            return digits > 0;
        }

        private boolean isNext(char sign) {
            return at < length && bytes[at] == sign;
        }

        private boolean isDigitNext() {
            return at < length && bytes[at] >= '0' && bytes[at] <= '9';
        }

        private int endOfWord(int from) {
            int end = from;
            while (end < length && bytes[end] >= 'a' && bytes[end] <= 'z') {
                end++;
            }
            return end;
        }

        private int findWord(int from, int end) {
            for (int word = 0; word < WORDS; word++) {
                if (isSame(spelling(word), from, end)) {
                    return word;
                }
            }
            return NO_WORD;
        }

        private boolean isSame(String word, int from, int end) {
            if (word.length() != end - from) {
                return false;
            }
            for (int i = 0; i < word.length(); i++) {
                if (bytes[from + i] != word.charAt(i)) {
                    return false;
                }
            }
            return true;
        }

        private static String spelling(int word) {
            switch (word) {
                case ARC:
                    return "arc";
                case ITEM:
                    return "item";
                case BLOCK:
                    return "block";
                case CAP:
                    return "cap";
                case WEIGHT:
                    return "weight";
                case CUT_WORD:
                    return "cut";
                case COVER:
                    return "cover";
                case CAPPED_WORD:
                    return "capped";
                case WEIGHED_WORD:
                    return "weighed";
                case SUM:
                    return "sum";
                default:
                    return "turn";
            }
        }
    }

    /** The text that write leaves. */
    private static final class Paper {
        /** 64 values of at most seven signs, with a space between any two. */
        private static final int MOST_BYTES = 511;

        int length;
        final byte[] bytes = new byte[MOST_BYTES];

        void append(char sign) {
            if (length < MOST_BYTES) {
                bytes[length] = (byte) sign;
                length++;
            }
        }

        /** A number of at most six digits. */
        void appendNumber(int number) {
            if (number < 0) {
                append('-');
            }
            int rest = Math.abs(number);
            boolean begun = false;
            for (int unit = 100000; unit >= 1; unit /= 10) {
                int digit = rest / unit % 10;
                if (digit > 0 || begun || unit == 1) {
                    append((char) ('0' + digit));
                    begun = true;
                }
            }
        }
    }

    /** A list, which is missing while its length is MISSING_LENGTH. */
    private static final class NumberList {
        private static final int MISSING_LENGTH = -1;

        int length = MISSING_LENGTH;
        final int[] numbers = new int[MOST_NUMBERS];

        boolean isMissing() {
            return length == MISSING_LENGTH;
        }
    }
}
