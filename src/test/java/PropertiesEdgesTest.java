/** The edges of promises 19 to 23: what can be asked of one function. */
public final class PropertiesEdgesTest {
    private static final int NONE = LesseningGains.NONE;
    private static final int BAD = LesseningGains.BAD;
    private static final int NOT = LesseningGains.NOT;
    private static final int MISSING = LesseningGains.MISSING;
    private static final int OTHER_KIND = -15;
    private static final int DEEP = -1000000;
    private static final long NO = LesseningGains.NO;
    private static final int TOP = 999999;
    private static final Check check = new Check();

    public static void main(String[] args) {
        promise19();
        propertiesOfOneElement();
        propertiesOfTwoElements();
        propertiesOfSixElements();
        promise20();
        promise21();
        promise22();
        promise23();
        failuresOfTies();
        failuresOfSixElements();
        check.end();
    }

    private static void promise19() {
        for (int n : new int[] {1, 6}) {
            Run r = Run.rich(check, "19", n);
            r.outside("of(#, 0)", NONE, 0, 5).outside("of(0, #)", NONE, 0, 4);
            for (int what = 0; what <= 4; what++) {
                r.leaves(Run.text("of", 5, what), MISSING).leaves(Run.text("of", 6, what), NONE);
            }
            r.leaves("of(5, 5)", NONE).leaves("of(5, -1)", NONE).leaves("of(6, 5)", NONE);
            r.does("turn(0, 5)");
            for (int f = 0; f < 6; f++) {
                r.leaves(Run.text("of", f, 0), f);
            }
        }
    }

    /** What: submodular, increasing, symmetric, modular, each 1 or 0. */
    private static void properties(Run r, int submodular, int increasing, int symmetric, int modular) {
        r.leaves("of(0, 1)", submodular).leaves("of(0, 2)", increasing);
        r.leaves("of(0, 3)", symmetric).leaves("of(0, 4)", modular);
    }

    private static void propertiesOfOneElement() {
        properties(told(1, 5, 5), 1, 1, 1, 1);
        properties(told(1, 5, 6), 1, 1, 0, 1);
        properties(told(1, 5, 4), 1, 0, 0, 1);
        properties(told(1, -TOP, TOP), 1, 1, 0, 1);
        properties(told(1, TOP, -TOP), 1, 0, 0, 1);
    }

    private static void propertiesOfTwoElements() {
        properties(told(2, 7, 7, 7, 7), 1, 1, 1, 1);
        properties(told(2, 0, 1, 1, 2), 1, 1, 0, 1);
        properties(told(2, 0, 1, 1, 3), 0, 1, 0, 0);
        properties(told(2, 0, 1, 1, 1), 1, 1, 0, 0);
        properties(told(2, 0, 1, 1, 0), 1, 0, 1, 0);
        properties(told(2, 1, 0, 0, 1), 0, 0, 1, 0);
        properties(told(2, 0, 1, 0, 0), 1, 0, 0, 0);
        properties(told(2, 0, -1, 1, 0), 1, 0, 0, 1);
        properties(told(2, -TOP, TOP, TOP, -TOP), 1, 0, 1, 0);
        properties(told(2, TOP, -TOP, -TOP, TOP), 0, 0, 1, 0);
        properties(told(2, -TOP, TOP, -TOP, TOP), 1, 1, 0, 1);
    }

    private static Run told(int n, int... values) {
        return new Run(check, "19").does("points(" + n + ")").tells(0, values);
    }

    /** A function of six elements that is 0 but for the empty set and ALL. */
    private static Run ends(int ofEmpty, int ofAll) {
        return new Run(check, "19").does("points(6)").does(Run.text("tell", 0, 0, ofEmpty))
                .does(Run.text("tell", 0, 63, ofAll));
    }

    private static void propertiesOfSixElements() {
        properties(ends(0, 0), 1, 1, 1, 1);
        properties(ends(0, 1), 0, 1, 0, 0);
        properties(ends(0, -1), 1, 0, 0, 0);
        properties(ends(1, 0), 0, 0, 0, 0);
        properties(ends(-1, 0), 1, 1, 0, 0);
        properties(ends(1, 1), 0, 0, 1, 0);
        properties(ends(-1, -1), 1, 0, 1, 0);
        properties(ends(-TOP, -TOP), 1, 0, 1, 0);
        properties(ends(TOP, TOP), 0, 0, 1, 0);
        properties(new Run(check, "19").does("points(6)").tells(0, s -> 3 * s - 70), 1, 1, 0, 1);
        properties(new Run(check, "19").does("points(6)").tells(0, s -> 70 - 3 * s), 1, 0, 0, 1);
        Run last = new Run(check, "19, last gain").does("points(6)").tells(0, s -> s == 63 ? 62 : s);
        properties(last, 1, 1, 0, 0);
        properties(last.does("tell(0, 63, 30)"), 1, 0, 0, 0);
    }

    private static void promise20() {
        for (int n : new int[] {1, 6}) {
            Run r = Run.rich(check, "20", n);
            r.outside("taken(#, 0)", NONE, 0, 5).outside("taken(0, #)", NONE, 0, 5).outside("taken(4, #)", NONE, 0, 5);
            for (int k = 0; k < 6; k++) {
                r.leaves(Run.text("taken", 5, k), MISSING);
            }
            r.leaves("taken(5, 6)", NONE).leaves("taken(5, -1)", NONE).leaves("taken(6, 6)", NONE);
            r.does("turn(0, 5)");
            String[] subkinds = {"0", "01", "02", "03", "034", "015"};
            for (int f = 0; f < 6; f++) {
                for (int k = 0; k < 6; k++) {
                    r.leaves(Run.text("taken", f, k), subkinds[f].contains("" + k) ? f : OTHER_KIND);
                }
            }
        }
    }

    private static void promise21() {
        Run one = Run.rich(check, "21", 1).leaves("value(0, 0)", -3).leaves("value(0, 1)", 9);
        one.outside("value(0, #)", DEEP + BAD, 0, 1).outside("value(5, #)", DEEP + BAD, 0, 1);
        Run r = Run.rich(check, "21", 6).leaves("value(0, 0)", -3).leaves("value(0, 63)", 9).leaves("value(0, 32)", 0);
        r.outside("value(#, 0)", DEEP + NONE, 0, 5).outside("value(0, #)", DEEP + BAD, 0, 63);
        r.leaves("value(6, 64)", DEEP + NONE).leaves("value(-1, -1)", DEEP + NONE);
        r.leaves("value(5, 64)", DEEP + BAD).leaves("value(5, -1)", DEEP + BAD);
        r.leaves("value(5, 0)", DEEP + MISSING).leaves("value(5, 63)", DEEP + MISSING);
        r.does("tell(0, 0, -999999); tell(0, 63, 999999)").leaves("value(0, 0)", -TOP).leaves("value(0, 63)", TOP);
        Run.rich(check, "21", 4).leaves("value(0, 15)", 9).leaves("value(0, 16)", DEEP + BAD);
    }

    private static void promise22() {
        Run one = new Run(check, "22, one element").does("points(1)").tells(0, -TOP, TOP);
        one.leaves("gain(0, 0, 0)", 2 * TOP).leaves("gain(0, 1, 0)", NO).does("turn(0, 0)")
                .leaves("gain(0, 0, 0)", -2 * TOP);
        one.outside("gain(0, #, 0)", NO, 0, 0).outside("gain(0, 0, #)", NO, 0, 0);
        Run r = Run.rich(check, "22", 6);
        r.leaves("gain(0, 0, 0)", 3).leaves("gain(0, 31, 5)", 9).leaves("gain(0, 62, 0)", 9).leaves("gain(0, 0, 5)", 3);
        r.leaves("gain(0, 32, 4)", 0).leaves("gain(4, 62, 0)", 3).leaves("gain(4, 31, 5)", -8);
        r.outside("gain(#, 0, 0)", NO, 0, 5).outside("gain(0, #, 5)", NO, 0, 31).outside("gain(0, 0, #)", NO, 0, 5);
        for (int p = 0; p < 6; p++) {
            r.leaves(Run.text("gain", 0, 63, p), NO).leaves(Run.text("gain", 0, 1 << p, p), NO);
            r.leaves(Run.text("gain", 5, 0, p), NO);
        }
        r.leaves("gain(6, 64, 6)", NO).leaves("gain(5, 1, 0)", NO);
    }

    private static void failure(Run r, int set, int i, int j) {
        r.leaves("fails(0, 0)", set).leaves("fails(0, 1)", i).leaves("fails(0, 2)", j).asks("of(0, 1)", 0);
    }

    private static void promise23() {
        for (int n : new int[] {1, 6}) {
            Run r = Run.rich(check, "23", n);
            r.outside("fails(#, 0)", NONE, 0, 5).outside("fails(0, #)", NONE, 0, 2).outside("fails(1, #)", NONE, 0, 2);
            for (int what = 0; what <= 2; what++) {
                r.leaves(Run.text("fails", 1, what), NOT).leaves(Run.text("fails", 5, what), MISSING);
                r.leaves(Run.text("fails", 6, what), NONE);
            }
            r.leaves("fails(5, 3)", NONE).leaves("fails(5, -1)", NONE).leaves("fails(6, 3)", NONE);
        }
        told(1, -TOP, TOP).leaves("fails(0, 0)", NOT).leaves("fails(0, 1)", NOT).leaves("fails(0, 2)", NOT);
        failure(told(2, 0, 0, 0, 1), 0, 0, 1);
        failure(told(2, TOP, -TOP, -TOP, TOP), 0, 0, 1);
        // Equal gains are no counterexample.
        told(2, 0, 1, 1, 2).leaves("fails(0, 0)", NOT);
    }

    /** The lowest set comes first, then the lowest i, then the lowest j. */
    private static void failuresOfTies() {
        failure(told(3, 0, 0, 0, 1, 0, 1, 1, 3), 0, 0, 1);
        failure(told(3, 0, 0, 0, 0, 0, 1, 1, 1), 0, 0, 2);
        failure(told(3, 0, 0, 0, 0, 0, 0, 1, 0), 0, 1, 2);
        failure(told(3, 0, 1, 1, 1, 1, 1, 1, 2), 1, 1, 2);
        failure(told(3, 0, 2, 2, 2, 2, 4, 3, 4), 2, 0, 2);
        failure(told(3, 0, 2, 2, 4, 2, 2, 3, 4), 4, 0, 1);
    }

    private static void failuresOfSixElements() {
        failure(ends(0, 1), 15, 4, 5);
        failure(ends(1, 0), 0, 0, 1);
        failure(ends(1, 1), 0, 0, 1);
        ends(-1, -1).leaves("fails(0, 0)", NOT);
        // With -12 for the set 62 the gains into it are as great as those before them, with -11 greater.
        Run r = new Run(check, "23, one grows").does("points(6)");
        r.tells(0, s -> s == 62 ? -12 : 11 - Integer.bitCount(s) * Integer.bitCount(s)).leaves("fails(0, 0)", NOT);
        failure(r.does("tell(0, 62, -11)"), 14, 4, 5);
    }
}
