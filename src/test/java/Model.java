import java.math.BigInteger;
import java.util.ArrayList;
import java.util.Arrays;
import java.util.Comparator;
import java.util.HashMap;
import java.util.List;
import java.util.Map;
import java.util.TreeSet;
import java.util.function.IntPredicate;
import java.util.regex.Matcher;
import java.util.regex.Pattern;
import java.util.stream.Collectors;
import java.util.stream.IntStream;

/** A second reading of the document, with other means than the class: slow, plain, with the whole Java library. */
final class Model {
    static final int NONE = -1, BAD = -2, STATE = -3, NOT = -5, MISSING = -11, DEEP = -1000000;
    static final long NO = Long.MIN_VALUE;
    private static final String[] PATHS = {"0", "01", "02", "03", "034", "015"};
    private static final Pattern WORD = Pattern.compile("[a-z]*");
    private static final Pattern PROGRAM = program();

    private record Item(int worth, int set) { }

    private record Func(int kind, Map<Integer, Integer> values) { }

    /** All that an image saves. */
    private static final class World {
        int n = 4;
        Map<String, Integer> loads = new HashMap<>();
        Map<Integer, Item> items = new HashMap<>();
        Map<Integer, Integer> blocks = new HashMap<>();
        Map<Integer, Integer> caps = new HashMap<>();
        Map<Integer, Integer> weights = new HashMap<>();
        Map<Integer, Func> functions = new HashMap<>();

        World copy() {
            World c = new World();
            c.n = n;
            c.loads.putAll(loads);
            c.items.putAll(items);
            c.blocks.putAll(blocks);
            c.caps.putAll(caps);
            c.weights.putAll(weights);
            c.functions.putAll(functions);
            return c;
        }
    }

    private World w = new World();
    private World saved;
    private final Map<Integer, List<Integer>> lists = new HashMap<>();
    private String tape = "";
    private String paper = "";

    private static Pattern program() {
        String number = " -?[0-9]{1,3}";
        String command = "(?:(?:arc|item|sum)(?:" + number + "){3}|(?:block|cap|weight|turn)(?:" + number
                + "){2}|(?:cut|cover|capped|weighed)" + number + ")";
        return Pattern.compile(command + "(?:;" + command + ")*");
    }

    // ---- help

    private int all() {
        return (1 << w.n) - 1;
    }

    private boolean noPoint(int p) {
        return !(0 <= p && p <= w.n - 1);
    }

    private boolean noSet(int s) {
        return !(0 <= s && s <= all());
    }

    private static boolean out(long v, long low, long high) {
        return v < low || v > high;
    }

    private IntStream sets(IntPredicate which) {
        return IntStream.rangeClosed(0, all()).filter(which);
    }

    private static boolean in(int p, int s) {
        return BigInteger.valueOf(s).testBit(p);
    }

    private List<Integer> elements(int s) {
        return IntStream.range(0, w.n).filter(p -> in(p, s)).boxed().collect(Collectors.toList());
    }

    private int weightOf(int s) {
        return elements(s).stream().mapToInt(p -> w.weights.getOrDefault(p, 0)).sum();
    }

    private int v(int f, int s) {
        return w.functions.get(f).values().get(s);
    }

    private int g(int f, int s, int p) {
        return v(f, s + (1 << p)) - v(f, s);
    }

    private boolean missing(int f) {
        return !w.functions.containsKey(f);
    }

    private interface Values {
        int at(int set);
    }

    private void set(int f, int kind, Values values) {
        Map<Integer, Integer> made = new HashMap<>();
        sets(s -> true).forEach(s -> made.put(s, values.at(s)));
        w.functions.put(f, new Func(kind, made));
    }

    private int make(int to, Values values) {
        if (sets(s -> out(values.at(s), -999999, 999999)).findAny().isPresent()) {
            return STATE;
        }
        set(to, 5, values);
        return 1;
    }

    private static int meet(IntStream sets, int start) {
        return sets.reduce(start, (a, b) -> a & b);
    }

    private static int join(IntStream sets) {
        return sets.reduce(0, (a, b) -> a | b);
    }

    private static int previous(Integer old, int first) {
        return old == null ? first : old;
    }

    // ---- elements and data

    int points(int n) {
        if (out(n, 1, 6)) {
            return BAD;
        }
        int old = w.n;
        w = new World();
        w.n = n;
        return old;
    }

    int arc(int i, int j, int v) {
        if (noPoint(i) || noPoint(j) || i == j) {
            return NONE;
        }
        return out(v, 0, 99) ? BAD : previous(w.loads.put(i + ">" + j, v), 0);
    }

    int item(int item, int v, int set) {
        if (out(item, 0, 7)) {
            return NONE;
        }
        if (out(v, 0, 99) || noSet(set)) {
            return BAD;
        }
        Item old = w.items.put(item, new Item(v, set));
        return old == null ? 0 : old.worth();
    }

    int block(int point, int block) {
        return noPoint(point) || out(block, 0, 5) ? NONE : previous(w.blocks.put(point, block), 0);
    }

    int cap(int block, int v) {
        if (out(block, 0, 5)) {
            return NONE;
        }
        return out(v, 0, 6) ? BAD : previous(w.caps.put(block, v), 1);
    }

    int weight(int point, int v) {
        if (noPoint(point)) {
            return DEEP + NONE;
        }
        return out(v, -99, 99) ? DEEP + BAD : previous(w.weights.put(point, v), 0);
    }

    // ---- functions

    int tell(int f, int set, int v) {
        if (out(f, 0, 5)) {
            return DEEP + NONE;
        }
        if (noSet(set) || out(v, -999999, 999999)) {
            return DEEP + BAD;
        }
        Map<Integer, Integer> old = missing(f) ? Map.of() : w.functions.get(f).values();
        set(f, 0, s -> s == set ? v : old.getOrDefault(s, 0));
        return old.getOrDefault(set, 0);
    }

    int cut(int f) {
        if (out(f, 0, 5)) {
            return NONE;
        }
        set(f, 1, s -> w.loads.entrySet().stream()
                .filter(e -> in(e.getKey().charAt(0) - '0', s) && !in(e.getKey().charAt(2) - '0', s))
                .mapToInt(Map.Entry::getValue).sum());
        return v(f, all() - 1);
    }

    int cover(int f) {
        if (out(f, 0, 5)) {
            return NONE;
        }
        set(f, 2, s -> w.items.values().stream()
                .filter(i -> elements(s).stream().anyMatch(p -> in(p, i.set())))
                .mapToInt(Item::worth).sum());
        return v(f, all());
    }

    int capped(int f) {
        if (out(f, 0, 5)) {
            return NONE;
        }
        set(f, 3, s -> IntStream.range(0, 6)
                .map(b -> (int) Math.min(w.caps.getOrDefault(b, 1),
                        elements(s).stream().filter(p -> w.blocks.getOrDefault(p, 0) == b).count()))
                .sum());
        return v(f, all());
    }

    int weighed(int f) {
        if (out(f, 0, 5)) {
            return NONE;
        }
        set(f, 4, this::weightOf);
        return v(f, all()) + 1000;
    }

    int sum(int f, int g, int to) {
        if (out(f, 0, 5) || out(g, 0, 5) || out(to, 0, 5)) {
            return NONE;
        }
        if (missing(f) || missing(g)) {
            return MISSING;
        }
        return make(to, sumOf(w.functions.get(f), w.functions.get(g)));
    }

    private static Values sumOf(Func a, Func b) {
        return s -> a.values().get(s) + b.values().get(s);
    }

    int turn(int f, int to) {
        if (out(f, 0, 5) || out(to, 0, 5)) {
            return NONE;
        }
        if (missing(f)) {
            return MISSING;
        }
        Func a = w.functions.get(f);
        return make(to, s -> a.values().get(all() - s));
    }

    int cutBack(int f, int to) {
        if (out(f, 0, 5) || out(to, 0, 5)) {
            return NONE;
        }
        if (missing(f)) {
            return MISSING;
        }
        Func a = w.functions.get(f);
        return make(to, s -> sets(t -> (t | s) == s).map(t -> a.values().get(t) + weightOf(s - t)).min().getAsInt());
    }

    int part(int f, int set, int way, int to) {
        if (out(f, 0, 5) || out(to, 0, 5)) {
            return NONE;
        }
        if (noSet(set) || out(way, 0, 1)) {
            return BAD;
        }
        if (missing(f)) {
            return MISSING;
        }
        Map<Integer, Integer> a = w.functions.get(f).values();
        return make(to, way == 0 ? s -> a.get(s & set) : s -> a.get(s | set) - a.get(set));
    }

    int held(int f, int v, int to) {
        if (out(f, 0, 5) || out(to, 0, 5)) {
            return NONE;
        }
        if (out(v, -999999, 999999)) {
            return BAD;
        }
        if (missing(f)) {
            return MISSING;
        }
        Map<Integer, Integer> a = w.functions.get(f).values();
        return make(to, s -> a.get(s) > v ? v : a.get(s));
    }

    int clear(int f) {
        if (out(f, 0, 5)) {
            return NONE;
        }
        return missing(f) ? MISSING : w.functions.remove(f).kind();
    }

    int of(int f, int what) {
        if (out(f, 0, 5) || out(what, 0, 4)) {
            return NONE;
        }
        if (missing(f)) {
            return MISSING;
        }
        boolean truth = switch (what) {
            case 1 -> isSubmodular(f);
            case 2 -> sets(s -> true).allMatch(s -> elements(all() - s).stream().allMatch(p -> g(f, s, p) >= 0));
            case 3 -> sets(s -> true).allMatch(s -> v(f, s) == v(f, all() - s));
            default -> elements(all()).stream().allMatch(
                p -> sets(s -> !in(p, s)).map(s -> g(f, s, p)).distinct().count() == 1);
        };
        return what == 0 ? w.functions.get(f).kind() : truth ? 1 : 0;
    }

    /** By the other definition: for any two sets, the values are at least those of union and intersection. */
    private boolean isSubmodular(int f) {
        return sets(s -> true).allMatch(
            a -> sets(s -> true).allMatch(b -> v(f, a) + v(f, b) >= v(f, a | b) + v(f, a & b)));
    }

    int taken(int f, int k) {
        if (out(f, 0, 5) || out(k, 0, 5)) {
            return NONE;
        }
        if (missing(f)) {
            return MISSING;
        }
        int kind = w.functions.get(f).kind();
        return PATHS[kind].contains("" + k) ? kind : -15;
    }

    int value(int f, int set) {
        if (out(f, 0, 5)) {
            return DEEP + NONE;
        }
        if (noSet(set)) {
            return DEEP + BAD;
        }
        return missing(f) ? DEEP + MISSING : v(f, set);
    }

    long gain(int f, int set, int point) {
        return out(f, 0, 5) || noSet(set) || noPoint(point) || in(point, set) || missing(f) ? NO : g(f, set, point);
    }

    int fails(int f, int what) {
        if (out(f, 0, 5) || out(what, 0, 2)) {
            return NONE;
        }
        if (missing(f)) {
            return MISSING;
        }
        TreeSet<int[]> all = new TreeSet<>(Arrays::compare);
        for (int s = 0; s <= all(); s++) {
            for (int i : elements(all() - s)) {
                for (int j : elements(all() - s - (1 << i))) {
                    if (g(f, s, i) < g(f, s + (1 << j), i)) {
                        all.add(new int[] {s, i, j});
                    }
                }
            }
        }
        return all.isEmpty() ? NOT : all.first()[what];
    }

    // ---- bases

    private List<List<Integer>> orders(List<Integer> of) {
        if (of.isEmpty()) {
            return List.of(List.of());
        }
        List<List<Integer>> found = new ArrayList<>();
        for (Integer first : of) {
            List<Integer> rest = new ArrayList<>(of);
            rest.remove(first);
            for (List<Integer> tail : orders(rest)) {
                List<Integer> order = new ArrayList<>(List.of(first));
                order.addAll(tail);
                found.add(order);
            }
        }
        return found;
    }

    private Map<Integer, Integer> baseVector(int f, int order) {
        List<List<Integer>> orders = orders(elements(all()));
        if (out(order, 0, orders.size() - 1)) {
            return null;
        }
        Map<Integer, Integer> vector = new HashMap<>();
        int before = 0;
        for (int p : orders.get(order)) {
            vector.put(p, g(f, before, p));
            before += 1 << p;
        }
        return vector;
    }

    long base(int f, int order, int point) {
        if (out(f, 0, 5) || missing(f) || noPoint(point) || baseVector(f, order) == null) {
            return NO;
        }
        return baseVector(f, order).get(point);
    }

    long negative(int f, int order) {
        if (out(f, 0, 5) || missing(f) || baseVector(f, order) == null) {
            return NO;
        }
        return baseVector(f, order).values().stream().filter(e -> e < 0).mapToLong(e -> e).sum();
    }

    int based(int f, int what) {
        if (out(f, 0, 5) || out(what, 0, 3)) {
            return NONE;
        }
        if (missing(f)) {
            return MISSING;
        }
        IntPredicate tight = s -> weightOf(s) + v(f, 0) == v(f, s);
        return switch (what) {
            case 0 -> tight.test(all()) && sets(s -> true).allMatch(s -> weightOf(s) <= v(f, s) - v(f, 0)) ? 1 : 0;
            case 1 -> (int) sets(tight).count();
            case 2 -> meet(sets(tight).filter(s -> s > 0), all());
            default -> join(sets(tight));
        };
    }

    // ---- minimisers

    long least(int f) {
        return out(f, 0, 5) || missing(f) ? NO : sets(s -> true).map(s -> v(f, s)).min().getAsInt();
    }

    private IntStream minimisers(int f) {
        return sets(s -> v(f, s) == least(f));
    }

    int leastSets(int f, int what) {
        if (out(f, 0, 5) || out(what, 0, 3)) {
            return NONE;
        }
        if (missing(f)) {
            return MISSING;
        }
        List<Integer> found = minimisers(f).boxed().collect(Collectors.toList());
        return switch (what) {
            case 0 -> found.size();
            case 1 -> meet(minimisers(f), all());
            case 2 -> join(minimisers(f));
            default -> found.stream().allMatch(a -> found.stream().allMatch(
                b -> found.contains(a & b) && found.contains(a | b))) ? 1 : 0;
        };
    }

    int ring(int f, int point) {
        if (out(f, 0, 5) || noPoint(point)) {
            return NONE;
        }
        if (missing(f)) {
            return MISSING;
        }
        boolean some = minimisers(f).anyMatch(s -> in(point, s));
        return some ? meet(minimisers(f).filter(s -> in(point, s)), all()) : NOT;
    }

    /** 60 times the quotient is a whole number, as there are at most six elements. */
    private long sixtyfold(int f, int a, int s) {
        return 60L * (v(f, s) - v(f, a)) / Integer.bitCount(s - a);
    }

    private List<Integer> sequence(int f) {
        List<Integer> members = new ArrayList<>();
        for (int a = 0; a != all(); a = members.get(members.size() - 1)) {
            int from = a;
            members.add(sets(s -> (s & from) == from && s != from).boxed().min(
                Comparator.<Integer>comparingLong(s -> sixtyfold(f, from, s))
                        .thenComparing(s -> -Integer.bitCount(s)).thenComparing(s -> s)).get());
        }
        return members;
    }

    int level(int f, int i) {
        if (out(f, 0, 5) || i < -1) {
            return NONE;
        }
        if (missing(f)) {
            return MISSING;
        }
        List<Integer> members = sequence(f);
        return i == -1 ? members.size() : i < members.size() ? members.get(i) : NOT;
    }

    long height(int f, int i, int part) {
        if (out(f, 0, 5) || missing(f) || out(part, 0, 1) || out(i, 0, sequence(f).size() - 1)) {
            return NO;
        }
        List<Integer> members = sequence(f);
        int a = i == 0 ? 0 : members.get(i - 1);
        BigInteger rise = BigInteger.valueOf(v(f, members.get(i)) - v(f, a));
        BigInteger size = BigInteger.valueOf(Integer.bitCount(members.get(i)) - Integer.bitCount(a));
        return (part == 0 ? rise : size).divide(rise.gcd(size)).longValue();
    }

    // ---- cuts, choices

    int wall(int f, int s, int t) {
        if (out(f, 0, 5) || noPoint(s) || noPoint(t) || s == t) {
            return NONE;
        }
        if (missing(f)) {
            return MISSING;
        }
        return sets(a -> in(s, a) && !in(t, a)).boxed().min(
            Comparator.<Integer>comparingInt(a -> v(f, a)).thenComparing(Integer::bitCount)
                    .thenComparing(a -> a)).get();
    }

    long wallValue(int f, int s, int t) {
        int set = wall(f, s, t);
        return set < 0 ? NO : v(f, set);
    }

    int most(int f, int k, int way) {
        if (out(f, 0, 5) || out(way, 0, 1)) {
            return NONE;
        }
        if (out(k, 0, w.n)) {
            return BAD;
        }
        if (missing(f)) {
            return MISSING;
        }
        if (way == 1) {
            return sets(s -> elements(s).size() == k).boxed().min(
                Comparator.<Integer>comparingInt(s -> -v(f, s)).thenComparing(s -> s)).get();
        }
        int chosen = 0;
        while (elements(chosen).size() < k) {
            int at = chosen;
            chosen += 1 << elements(all() - at).stream().min(
                Comparator.<Integer>comparingInt(p -> -g(f, at, p)).thenComparing(p -> p)).get();
        }
        return chosen;
    }

    // ---- texts

    int feed(int letter) {
        if (out(letter, 1, 127)) {
            return BAD;
        }
        if (tape.length() == 100) {
            return STATE;
        }
        tape += (char) letter;
        return tape.length();
    }

    int deeds() {
        String program = tape;
        tape = "";
        int error = syntaxError(program);
        if (error >= 0) {
            return -100 - error;
        }
        int good = 0;
        for (String command : program.split(";")) {
            good += obey(command.split(" ")) ? 1 : 0;
        }
        return good;
    }

    private static int syntaxError(String program) {
        Matcher matcher = PROGRAM.matcher(program);
        if (matcher.matches()) {
            return -1;
        }
        int viable = 0;
        while (viable < program.length() && isBeginning(program.substring(0, viable + 1))) {
            viable++;
        }
        int start = program.substring(0, viable).lastIndexOf(';') + 1;
        Matcher word = WORD.matcher(program).region(start, program.length());
        word.lookingAt();
        boolean isCommand = word.group().matches("arc|item|block|cap|weight|cut|cover|capped|weighed|sum|turn");
        return isCommand ? viable : start;
    }

    private static boolean isBeginning(String text) {
        Matcher matcher = PROGRAM.matcher(text);
        return matcher.matches() || matcher.hitEnd();
    }

    private boolean obey(String[] c) {
        int[] a = new int[4];
        for (int i = 1; i < c.length; i++) {
            a[i] = Integer.parseInt(c[i]);
        }
        int answer = switch (c[0]) {
            case "arc" -> arc(a[1], a[2], a[3]);
            case "item" -> item(a[1], a[2], a[3]);
            case "block" -> block(a[1], a[2]);
            case "cap" -> cap(a[1], a[2]);
            case "weight" -> weight(a[1], a[2]) + 99;
            case "cut" -> cut(a[1]);
            case "cover" -> cover(a[1]);
            case "capped" -> capped(a[1]);
            case "weighed" -> weighed(a[1]);
            case "sum" -> sum(a[1], a[2], a[3]);
            default -> turn(a[1], a[2]);
        };
        return answer >= 0;
    }

    int write(int f) {
        if (out(f, 0, 5)) {
            return NONE;
        }
        if (missing(f)) {
            return MISSING;
        }
        paper = sets(s -> true).mapToObj(s -> "" + v(f, s)).collect(Collectors.joining(" "));
        return paper.length();
    }

    int paper(int i) {
        return out(i, 0, paper.length() - 1) ? NONE : paper.charAt(i);
    }

    // ---- lists, image

    int list(int list, int n) {
        if (out(list, 0, 3)) {
            return NONE;
        }
        if (n > 64) {
            return BAD;
        }
        if (n < 0) {
            return -14;
        }
        lists.put(list, new ArrayList<>(java.util.Collections.nCopies(n, 0)));
        return 1;
    }

    int put(int list, int i, int v) {
        if (out(list, 0, 3)) {
            return NONE;
        }
        if (!lists.containsKey(list)) {
            return MISSING;
        }
        if (out(i, 0, lists.get(list).size() - 1)) {
            return -13;
        }
        lists.get(list).set(i, v);
        return 1;
    }

    long get(int list, int i) {
        List<Integer> found = lists.getOrDefault(list, List.of());
        return out(i, 0, found.size() - 1) ? NO : found.get(i);
    }

    int lay(int f, int list) {
        if (out(f, 0, 5) || out(list, 0, 3)) {
            return NONE;
        }
        List<Integer> found = lists.get(list);
        if (found == null) {
            return MISSING;
        }
        if (found.size() > all() + 1 || found.stream().anyMatch(v -> out(v, -999999, 999999))) {
            return STATE;
        }
        set(f, 0, s -> s < found.size() ? found.get(s) : 0);
        return found.size();
    }

    int judge(int list, int f) {
        if (out(list, 0, 3) || out(f, 0, 5)) {
            return NONE;
        }
        if (!lists.containsKey(list) || missing(f)) {
            return MISSING;
        }
        List<Integer> found = lists.get(list);
        return IntStream.range(0, found.size()).filter(i -> i > all() || found.get(i) != v(f, i)).findFirst()
                .orElse(NOT);
    }

    int image() {
        saved = w.copy();
        return w.functions.size();
    }

    int back() {
        if (saved == null) {
            return STATE;
        }
        w = saved.copy();
        return w.functions.size();
    }

    int count(int what) {
        return switch (what) {
            case 0 -> w.n;
            case 1 -> w.functions.size();
            case 2 -> (int) w.loads.values().stream().filter(v -> v != 0).count();
            case 3 -> (int) w.items.values().stream().filter(i -> i.worth() != 0).count();
            case 4 -> tape.length();
            case 5 -> paper.length();
            default -> BAD;
        };
    }
}
