/** The edges of promises 32 to 34: cuts that separate two elements, and choices. */
public final class CutsEdgesTest {
    private static final int NONE = LesseningGains.NONE;
    private static final int BAD = LesseningGains.BAD;
    private static final int MISSING = LesseningGains.MISSING;
    private static final long NO = LesseningGains.NO;
    private static final int TOP = 999999;
    private static final Check check = new Check();

    public static void main(String[] args) {
        wallErrors();
        wallsOfFewElements();
        wallsOfSixElements();
        wallTies();
        mostErrors();
        choicesOfOneElement();
        choicesOfSixElements();
        greedyChoices();
        bestChoices();
        check.end();
    }

    /** Promises 32 and 33: what the one reports as NONE or MISSING, the other answers with NO. */
    private static void wallErrors() {
        Run r = Run.rich(check, "32", 6);
        r.outside("wall(#, 0, 1)", NONE, 0, 5).outside("wall(0, #, 1)", NONE, 0, 5)
                .outside("wall(0, 1, #)", NONE, 0, 5);
        r.leaves("wall(5, 0, 1)", MISSING).leaves("wall(5, 5, 4)", MISSING).leaves("wall(5, 0, 0)", NONE);
        r.leaves("wall(5, 6, 0)", NONE).leaves("wall(5, 0, 6)", NONE).leaves("wall(6, 0, 0)", NONE);
        Run value = Run.rich(check, "33", 6);
        value.outside("wallValue(#, 0, 1)", NO, 0, 5).outside("wallValue(0, #, 1)", NO, 0, 5);
        value.outside("wallValue(0, 1, #)", NO, 0, 5).leaves("wallValue(5, 0, 1)", NO).leaves("wallValue(5, 0, 0)", NO);
        for (int p = 0; p < 6; p++) {
            r.leaves(Run.text("wall", 0, p, p), NONE);
            value.leaves(Run.text("wallValue", 0, p, p), NO);
        }
        Run one = Run.rich(check, "32, one element", 1);
        one.leaves("wall(0, 0, 0)", NONE).leaves("wall(0, 0, 1)", NONE).leaves("wall(0, 1, 0)", NONE);
        one.leaves("wallValue(0, 0, 0)", NO).leaves("wallValue(0, 0, 1)", NO).leaves("wallValue(0, 1, 0)", NO);
        one.leaves("wall(5, 0, 0)", NONE).leaves("wall(5, 0, 1)", NONE).leaves("wallValue(5, 0, 0)", NO);
    }

    private static void wall(Run r, int s, int t, int set, long value) {
        r.leaves(Run.text("wall", 0, s, t), set).leaves(Run.text("wallValue", 0, s, t), value);
    }

    /** The empty set and ALL are no cuts, however low their values are. */
    private static void wallsOfFewElements() {
        Run two = new Run(check, "32, two elements").does("points(2)").tells(0, -TOP, TOP, 5, -TOP);
        wall(two, 0, 1, 1, TOP);
        wall(two, 1, 0, 2, 5);
        Run three = new Run(check, "32, three elements").does("points(3)").tells(0, -9, 0, 1, 1, 0, -1, 0, -9);
        wall(three, 0, 1, 5, -1);
        wall(three, 0, 2, 1, 0);
        wall(three, 1, 0, 6, 0);
        wall(three, 1, 2, 2, 1);
        wall(three, 2, 0, 4, 0);
        wall(three, 2, 1, 5, -1);
    }

    private static void wallsOfSixElements() {
        Run ends = new Run(check, "32, ends").does("points(6); tell(0, 0, -999999); tell(0, 63, -999999)");
        for (int s = 0; s < 6; s++) {
            for (int t = 0; t < 6; t++) {
                if (s != t) {
                    wall(ends, s, t, 1 << s, 0);
                }
            }
        }
        Run lowest = new Run(check, "33, lowest").does("points(6)").tells(0, s -> TOP);
        wall(lowest, 5, 0, 32, TOP);
        wall(lowest.does("tell(0, 62, -999999)"), 5, 0, 62, -TOP);
        wall(lowest, 1, 0, 62, -TOP);
        wall(lowest, 0, 5, 1, TOP);
        wall(lowest, 5, 1, 32, TOP);
        wall(lowest.does("tell(0, 31, -999998)"), 0, 5, 31, -999998);
    }

    /** The least value, then the fewest elements, then the lowest int. */
    private static void wallTies() {
        Run pairs = new Run(check, "32, pairs").does("points(6)").tells(0, s -> Integer.bitCount(s) == 2 ? -3 : 8);
        wall(pairs, 0, 5, 3, -3);
        wall(pairs, 5, 0, 34, -3);
        wall(pairs, 5, 1, 33, -3);
        wall(pairs, 4, 3, 17, -3);
        // The set 7 is lower, the set 33 has fewer elements.
        Run fewer = new Run(check, "32, fewer").does("points(6); tell(0, 7, -1); tell(0, 33, -1); tell(0, 14, -2)");
        wall(fewer, 0, 4, 33, -1);
        wall(fewer, 0, 5, 7, -1);
        wall(fewer, 1, 0, 14, -2);
        wall(fewer.does("tell(0, 7, -2)"), 0, 4, 7, -2);
    }

    private static void mostErrors() {
        for (int n : new int[] {1, 6}) {
            Run r = Run.rich(check, "34", n);
            r.outside("most(#, 1, 0)", NONE, 0, 5).outside("most(0, 1, #)", NONE, 0, 1);
            r.outside("most(0, #, 0)", BAD, 0, n).outside("most(0, #, 1)", BAD, 0, n);
            r.leaves("most(6, -1, 0)", NONE).leaves("most(0, 7, 2)", NONE).leaves("most(5, 7, -1)", NONE);
            r.leaves("most(5, 7, 0)", BAD).leaves("most(5, -1, 1)", BAD).leaves("most(5, 1, 2)", NONE);
            r.leaves("most(5, 0, 0)", MISSING).leaves(Run.text("most", 5, n, 1), MISSING).leaves("most(6, 0, 0)", NONE);
        }
    }

    private static void choice(Run r, int k, int greedy, int best) {
        r.leaves(Run.text("most", 0, k, 0), greedy).leaves(Run.text("most", 0, k, 1), best);
    }

    private static void choicesOfOneElement() {
        for (int v : new int[] {-TOP, 0, TOP}) {
            Run r = new Run(check, "34, one element").does("points(1)").tells(0, -v, v);
            choice(r, 0, 0, 0);
            choice(r, 1, 1, 1);
        }
    }

    private static void choicesOfSixElements() {
        for (int v : new int[] {-TOP, 0, TOP}) {
            Run flat = new Run(check, "34, all the same").does("points(6)").tells(0, s -> v);
            for (int k = 0; k <= 6; k++) {
                choice(flat, k, (1 << k) - 1, (1 << k) - 1);
            }
        }
        Run high = new Run(check, "34, the high ones").does("points(6)").tells(0, s -> s);
        for (int k = 0; k <= 6; k++) {
            choice(high, k, 63 & -(64 >> k), 63 & -(64 >> k));
        }
        // The best of no element and of all is the only one, however low.
        Run ends = new Run(check, "34, ends").does("points(6); tell(0, 0, -999999); tell(0, 63, -999999)");
        choice(ends, 0, 0, 0);
        choice(ends, 6, 63, 63);
    }

    private static void greedyChoices() {
        // Only together are 4 and 5 worth anything.
        Run r = new Run(check, "34, greedy").does("points(6); tell(0, 48, 1)");
        choice(r, 2, 3, 48);
        choice(r.does("tell(0, 32, -1)"), 1, 1, 1);
        choice(r.does("tell(0, 16, 1)"), 1, 16, 16);
        choice(r, 2, 48, 48);
        choice(r, 3, 49, 7);
        Run falling = new Run(check, "34, falling").does("points(6)").tells(0, s -> -s);
        choice(falling, 4, 15, 15);
        Run steep = new Run(check, "34, steep").does("points(2)").tells(0, TOP, -TOP, -999998, -TOP);
        choice(steep, 1, 2, 2);
        choice(steep, 2, 3, 3);
    }

    private static void bestChoices() {
        Run r = new Run(check, "34, best").does("points(6)").tells(0, s -> -TOP);
        choice(r.does("tell(0, 62, -999998)"), 5, 31, 62);
        choice(r.does("tell(0, 59, -999998)"), 5, 31, 59);
        choice(r, 4, 15, 15);
        choice(r.does("tell(0, 60, -999998); tell(0, 15, -999998)"), 4, 15, 15);
        choice(r.does("tell(0, 60, -999997)"), 4, 15, 60);
    }
}
