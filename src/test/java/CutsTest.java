/** Promises 32 to 34: cuts that separate two elements, and choices. */
public final class CutsTest {
    private static final int NONE = LesseningGains.NONE;
    private static final int BAD = LesseningGains.BAD;
    private static final int MISSING = LesseningGains.MISSING;
    private static final long NO = LesseningGains.NO;
    private static final Check check = new Check();

    public static void main(String[] args) {
        walls();
        wallErrors();
        greedyChoice();
        bestChoice();
        mostErrors();
        sixElements();
        check.end();
    }

    private static void wall(LesseningGains x, int s, int t, int set, long value) {
        check.due("32: from " + s + " to " + t, x.wall(0, s, t), set);
        check.due("33: from " + s + " to " + t, x.wallValue(0, s, t), value);
    }

    private static void walls() {
        LesseningGains x = Check.ofPoints(3);
        Check.tellAll(x, 0, -9, 5, 4, 3, 2, 5, 2, -9);
        wall(x, 0, 1, 1, 5);
        wall(x, 0, 2, 3, 3);
        wall(x, 1, 0, 6, 2);
        wall(x, 1, 2, 3, 3);
        wall(x, 2, 0, 4, 2);
        wall(x, 2, 1, 4, 2);
        LesseningGains four = Check.ofPoints(4);
        for (int set = 0; set < 16; set++) {
            four.tell(0, set, Integer.bitCount(set) == 2 ? -3 : 8);
        }
        wall(four, 2, 3, 5, -3);
        wall(four, 3, 0, 10, -3);
        four.tell(0, 14, -3);
        wall(four, 3, 0, 10, -3);
        four.tell(0, 14, -4);
        wall(four, 3, 0, 14, -4);
    }

    private static void wallErrors() {
        LesseningGains x = Check.ofPoints(2);
        x.cut(0);
        int[][] wrong = {{6, 0, 1}, {-1, 0, 1}, {0, 2, 1}, {0, -1, 1}, {0, 0, 2}, {0, 0, -1}, {0, 1, 1}};
        for (int[] w : wrong) {
            check.due("32: wrong", x.wall(w[0], w[1], w[2]), NONE);
            check.due("33: wrong", x.wallValue(w[0], w[1], w[2]), NO);
        }
        check.due("32: missing", x.wall(1, 0, 1), MISSING);
        check.due("32: the same before missing", x.wall(1, 0, 0), NONE);
        check.due("33: missing", x.wallValue(1, 0, 1), NO);
    }

    private static void greedyChoice() {
        LesseningGains x = Check.ofPoints(3);
        Check.tellAll(x, 0, 0, 4, 5, 6, 5, 9, 7, 8);
        check.due("34: none", x.most(0, 0, 0), 0);
        check.due("34: of equal gains the lowest", x.most(0, 1, 0), 2);
        check.due("34: two", x.most(0, 2, 0), 6);
        check.due("34: all", x.most(0, 3, 0), 7);
        Check.tellAll(x, 1, 0, -4, -3, -9, -5, -9, -9, -20);
        check.due("34: also if all gains are negative", x.most(1, 1, 0), 2);
        check.due("34: equal negative gains", x.most(1, 2, 0), 3);
    }

    private static void bestChoice() {
        LesseningGains x = Check.ofPoints(3);
        Check.tellAll(x, 0, 0, 4, 5, 6, 5, 9, 7, 8);
        check.due("34: best of none", x.most(0, 0, 1), 0);
        check.due("34: best of equals is the lowest", x.most(0, 1, 1), 2);
        check.due("34: best two", x.most(0, 2, 1), 5);
        check.due("34: best of all", x.most(0, 3, 1), 7);
        Check.tellAll(x, 1, 9, -4, -5, -9, -3, -8, -8, 9);
        check.due("34: only sets of that size", x.most(1, 1, 1), 4);
        check.due("34: lowest of negative equals", x.most(1, 2, 1), 5);
    }

    private static void sixElements() {
        LesseningGains x = Check.ofPoints(6);
        for (int set = 0; set < 64; set++) {
            x.tell(0, set, set == 62 ? -1 : set == 48 ? 9 : 2);
        }
        wall(x, 5, 0, 62, -1);
        wall(x, 0, 5, 1, 2);
        check.due("34: greedy of six", x.most(0, 6, 0), 63);
        check.due("34: greedy of two", x.most(0, 2, 0), 3);
        check.due("34: best of two", x.most(0, 2, 1), 48);
        check.due("34: k 7", x.most(0, 7, 1), BAD);
    }

    private static void mostErrors() {
        LesseningGains x = Check.ofPoints(3);
        x.cut(0);
        check.due("34: f", x.most(6, 4, 0), NONE);
        check.due("34: way 2", x.most(1, 4, 2), NONE);
        check.due("34: way -1", x.most(0, 0, -1), NONE);
        check.due("34: k 4", x.most(1, 4, 0), BAD);
        check.due("34: k -1", x.most(0, -1, 1), BAD);
        check.due("34: missing", x.most(1, 3, 1), MISSING);
    }
}
