/** The edges of promises 27 to 31: minimisers and the principal sequence. */
public final class MinimisersEdgesTest {
    private static final int NONE = LesseningGains.NONE;
    private static final int NOT = LesseningGains.NOT;
    private static final int MISSING = LesseningGains.MISSING;
    private static final long NO = LesseningGains.NO;
    private static final int TOP = 999999;
    private static final Check check = new Check();

    public static void main(String[] args) {
        promise27();
        promise28();
        minimisersOfOneElement();
        minimisersOfSixElements();
        minimisersThatAreNotClosed();
        promise29();
        promise30();
        promise31();
        sequencesOfOneElement();
        sequencesOfSixElements();
        heightsInLowestTerms();
        quotientsThatAreEqual();
        quotientsNearEachOther();
        check.end();
    }

    private static Run told(String head, int n, int... values) {
        return new Run(check, head).does("points(" + n + ")").tells(0, values);
    }

    /** A function of six elements with one value for all sets. */
    private static Run flat(String head, int value) {
        return new Run(check, head).does("points(6)").tells(0, s -> value);
    }

    private static void promise27() {
        told("27", 1, TOP, -TOP).leaves("least(0)", -TOP).does("turn(0, 0)").leaves("least(0)", -TOP);
        told("27", 1, 4, 4).leaves("least(0)", 4);
        flat("27", TOP).leaves("least(0)", TOP).does("tell(0, 63, 999998)").leaves("least(0)", TOP - 1);
        flat("27", 0).leaves("least(0)", 0).does("tell(0, 0, -999999)").leaves("least(0)", -TOP);
        flat("27", 5).does("tell(0, 32, 4)").leaves("least(0)", 4);
        for (int n : new int[] {1, 6}) {
            Run r = Run.rich(check, "27", n).outside("least(#)", NO, 0, 5).leaves("least(5)", NO);
            r.leaves("least(0)", -3);
        }
    }

    private static void promise28() {
        for (int n : new int[] {1, 6}) {
            Run r = Run.rich(check, "28", n);
            r.outside("leastSets(#, 0)", NONE, 0, 5).outside("leastSets(0, #)", NONE, 0, 3);
            for (int what = 0; what <= 3; what++) {
                r.leaves(Run.text("leastSets", 5, what), MISSING).leaves(Run.text("leastSets", 6, what), NONE);
            }
            r.leaves("leastSets(5, 4)", NONE).leaves("leastSets(5, -1)", NONE).leaves("leastSets(6, 4)", NONE);
        }
    }

    private static void numbers(Run r, int number, int common, int together, int closed) {
        r.leaves("leastSets(0, 0)", number).leaves("leastSets(0, 1)", common);
        r.leaves("leastSets(0, 2)", together).leaves("leastSets(0, 3)", closed);
    }

    private static void minimisersOfOneElement() {
        numbers(told("28", 1, 0, 0), 2, 0, 1, 1);
        numbers(told("28", 1, 0, 1), 1, 0, 0, 1);
        numbers(told("28", 1, 1, 0), 1, 1, 1, 1);
        numbers(told("28", 1, TOP, -TOP), 1, 1, 1, 1);
    }

    private static void minimisersOfSixElements() {
        numbers(flat("28", TOP), 64, 0, 63, 1);
        numbers(flat("28", -TOP), 64, 0, 63, 1);
        numbers(flat("28", 5).does("tell(0, 63, 4)"), 1, 63, 63, 1);
        numbers(flat("28", 5).does("tell(0, 0, 4)"), 1, 0, 0, 1);
        numbers(flat("28", 5).does("tell(0, 63, 6)"), 63, 0, 63, 0);
        numbers(flat("28", 5).does("tell(0, 0, 6)"), 63, 0, 63, 0);
        numbers(flat("28", 5).does("tell(0, 32, 4)"), 1, 32, 32, 1);
    }

    private static void minimisersThatAreNotClosed() {
        Run r = flat("28, closed", 5).does("tell(0, 1, -7); tell(0, 32, -7)");
        numbers(r, 2, 0, 33, 0);
        numbers(r.does("tell(0, 0, -7)"), 3, 0, 33, 0);
        numbers(r.does("tell(0, 33, -7)"), 4, 0, 33, 1);
        numbers(r.does("tell(0, 0, -6)"), 3, 0, 33, 0);
        numbers(flat("28, a chain", 5).does("tell(0, 1, -7); tell(0, 3, -7); tell(0, 35, -7)"), 3, 1, 35, 1);
        numbers(flat("28, the last two", 5).does("tell(0, 62, 4); tell(0, 61, 4)"), 2, 60, 63, 0);
    }

    private static void promise29() {
        told("29", 1, 0, 0).leaves("ring(0, 0)", 1).does("tell(0, 0, 1)").leaves("ring(0, 0)", 1);
        told("29", 1, 0, 1).leaves("ring(0, 0)", NOT);
        for (int p = 0; p < 6; p++) {
            flat("29", 2).leaves(Run.text("ring", 0, p), 1 << p);
            flat("29", 2).does("tell(0, 63, 1)").leaves(Run.text("ring", 0, p), 63);
            flat("29", 2).does("tell(0, 0, 1)").leaves(Run.text("ring", 0, p), NOT);
        }
        Run r = flat("29", 2).does("tell(0, 49, 1); tell(0, 35, 1); tell(0, 0, 1)").leaves("ring(0, 0)", 33);
        r.leaves("ring(0, 1)", 35).leaves("ring(0, 4)", 49).leaves("ring(0, 2)", NOT).leaves("ring(0, 5)", 33);
        r.does("tell(0, 14, 1)").leaves("ring(0, 1)", 2);
        for (int n : new int[] {1, 6}) {
            Run errors = Run.rich(check, "29", n);
            errors.outside("ring(#, 0)", NONE, 0, 5).outside("ring(0, #)", NONE, 0, n - 1);
            errors.leaves("ring(5, 0)", MISSING).leaves(Run.text("ring", 5, n - 1), MISSING);
            errors.leaves(Run.text("ring", 5, n), NONE).leaves("ring(5, -1)", NONE).leaves("ring(6, 6)", NONE);
            errors.leaves("ring(0, 0)", NOT);
        }
    }

    private static void promise30() {
        for (int n : new int[] {1, 6}) {
            Run r = Run.rich(check, "30", n);
            r.outside("level(#, 0)", NONE, 0, 5).outside("level(#, -1)", NONE, 0, 5);
            r.leaves("level(0, -2)", NONE).leaves("level(0, -2147483648)", NONE).leaves("level(5, -2)", NONE);
            r.leaves("level(5, -1)", MISSING).leaves("level(5, 0)", MISSING).leaves("level(5, 2147483647)", MISSING);
            r.leaves("level(0, 6)", NOT).leaves("level(0, 2147483647)", NOT).leaves("level(0, 32)", NOT);
        }
    }

    private static void promise31() {
        Run r = Run.rich(check, "31", 6).leaves("level(0, -1)", 2).leaves("level(0, 0)", 31)
                .leaves("height(0, 0, 0)", 3);
        r.leaves("height(0, 0, 1)", 5).leaves("height(0, 1, 0)", 9).leaves("height(0, 1, 1)", 1);
        r.outside("height(#, 0, 0)", NO, 0, 5).outside("height(#, 0, 1)", NO, 0, 5);
        r.outside("height(0, #, 0)", NO, 0, 1).outside("height(0, #, 1)", NO, 0, 1)
                .outside("height(0, 0, #)", NO, 0, 1);
        r.leaves("height(5, 0, 0)", NO).leaves("height(5, -1, 0)", NO).leaves("height(5, 0, 2)", NO);
        Run.rich(check, "31", 1).outside("height(0, #, 1)", NO, 0, 0).leaves("height(0, 0, 0)", 12);
    }

    private static void member(Run r, int i, int set, long numerator, long denominator) {
        r.leaves(Run.text("level", 0, i), set);
        r.leaves(Run.text("height", 0, i, 0), numerator).leaves(Run.text("height", 0, i, 1), denominator);
    }

    private static void members(Run r, int number) {
        r.leaves("level(0, -1)", number).leaves(Run.text("level", 0, number), NOT);
        r.leaves(Run.text("height", 0, number, 0), NO).leaves(Run.text("height", 0, number, 1), NO);
    }

    private static void sequencesOfOneElement() {
        int[][] values = {{5, 5, 0}, {-TOP, TOP, 2 * TOP}, {TOP, -TOP, -2 * TOP}, {0, 6, 6}, {0, -1, -1}};
        for (int[] v : values) {
            Run r = told("30, one element", 1, v[0], v[1]);
            members(r, 1);
            member(r, 0, 1, v[2], 1);
        }
    }

    private static void sequencesOfSixElements() {
        Run most = new Run(check, "30, six members").does("points(6)")
                .tells(0, s -> Integer.bitCount(s) * Integer.bitCount(s));
        members(most, 6);
        for (int i = 0; i < 6; i++) {
            member(most, i, (2 << i) - 1, 2 * i + 1, 1);
        }
        Run fewest = new Run(check, "30, one member").does("points(6)");
        fewest.tells(0, s -> -Integer.bitCount(s) * Integer.bitCount(s));
        members(fewest, 1);
        member(fewest, 0, 63, -6, 1);
        // From the highest element down: the members are no beginnings of the row of elements.
        Run down = new Run(check, "30, down").does("points(6)");
        for (int p = 0; p < 6; p++) {
            down.does(Run.text("weight", p, -10 * p));
        }
        members(down.does("weighed(0)"), 6);
        for (int i = 0; i < 6; i++) {
            member(down, i, 63 & -(1 << 5 - i), -50 + 10 * i, 1);
        }
        Run steep = flat("31, steep", TOP).does("tell(0, 63, -999999)");
        members(steep, 1);
        member(steep, 0, 63, -333333, 1);
        member(steep.does("tell(0, 0, -999999)"), 0, 63, 0, 1);
        Run last = flat("31, last", -TOP).does("tell(0, 63, 999999)");
        members(last, 2);
        member(last, 0, 31, 0, 1);
        member(last, 1, 63, 2 * TOP, 1);
    }

    private static void heightsInLowestTerms() {
        for (int n = 1; n <= 6; n++) {
            int all = (1 << n) - 1;
            Run r = new Run(check, "31, " + n + " elements").does("points(" + n + ")");
            for (int set = 1; set < all; set++) {
                r.does(Run.text("tell", 0, set, 999));
            }
            for (int v = -13; v <= 13; v++) {
                int divisor = 1;
                for (int d = 2; d <= n; d++) {
                    divisor = v % d == 0 && n % d == 0 ? d : divisor;
                }
                r.does(Run.text("tell", 0, all, v)).asks("level(0, 0)", all);
                r.asks("height(0, 0, 0)", v / divisor).asks("height(0, 0, 1)", n / divisor);
            }
        }
    }

    private static void quotientsThatAreEqual() {
        Run flat = flat("30, flat", -4);
        members(flat, 1);
        member(flat, 0, 63, 0, 1);
        Run single = flat("30, lowest of single ones", 99).does("tell(0, 0, 0)");
        for (int p = 0; p < 6; p++) {
            single.does(Run.text("tell", 0, 1 << p, 1));
        }
        members(single, 2);
        member(single, 0, 1, 1, 1);
        member(single, 1, 63, 98, 5);
        Run pair = new Run(check, "30, most elements").does("points(6)");
        pair.tells(0, s -> Integer.bitCount(s) <= 2 ? Integer.bitCount(s) : 99);
        members(pair, 2);
        member(pair, 0, 3, 1, 1);
        member(pair, 1, 63, 97, 4);
        // A higher set with more elements comes before a lower one with fewer.
        Run higher = flat("30, higher", 99).does("tell(0, 0, 0); tell(0, 1, 2); tell(0, 48, 4); tell(0, 40, 4)");
        member(higher, 0, 40, 2, 1);
        Run all = flat("30, ALL", 99).does("tell(0, 0, 0); tell(0, 7, 1); tell(0, 63, 2)");
        members(all, 1);
        member(all, 0, 63, 1, 3);
        // Of the sets that contain the first member, not of all.
        Run later = flat("30, later", 99)
                .does("tell(0, 0, 0); tell(0, 4, -9); tell(0, 1, 0); tell(0, 36, 0); tell(0, 12, 0)");
        member(later, 0, 4, -9, 1);
        member(later, 1, 12, 9, 1);
    }

    private static void quotientsNearEachOther() {
        Run r = flat("30, near", 99).does("tell(0, 0, 0); tell(0, 7, 1); tell(0, 63, 3)");
        members(r, 2);
        member(r, 0, 7, 1, 3);
        member(r, 1, 63, 2, 3);
        Run great = flat("30, great", TOP).does("tell(0, 0, 0); tell(0, 31, 833333)");
        members(great, 1);
        member(great, 0, 63, 333333, 2);
        great.does("tell(0, 31, 833332)");
        members(great, 2);
        member(great, 0, 31, 833332, 5);
        member(great, 1, 63, 166667, 1);
        Run negative = flat("30, negative", TOP).does("tell(0, 0, 0); tell(0, 31, -833333); tell(0, 63, -999999)");
        members(negative, 2);
        member(negative, 0, 31, -833333, 5);
        member(negative, 1, 63, -166666, 1);
        negative.does("tell(0, 31, -833332)");
        member(negative, 0, 63, -333333, 2);
    }
}
