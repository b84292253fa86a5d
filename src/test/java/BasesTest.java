/** Promises 24 to 26: base vectors, negative parts and the weights as a base. */
public final class BasesTest {
    private static final int NONE = LesseningGains.NONE;
    private static final int MISSING = LesseningGains.MISSING;
    private static final long NO = LesseningGains.NO;
    private static final Check check = new Check();

    public static void main(String[] args) {
        base();
        ordersOfSix();
        negative();
        based();
        sixElements();
        check.end();
    }

    private static void base() {
        LesseningGains x = Check.ofPoints(3);
        Check.tellAll(x, 0, 1, 10, 20, -5, 40, 3, 7, 100);
        long[][] bases = {
            {9, -15, 105}, {9, 97, -7}, {-25, 19, 105}, {93, 19, -13}, {-37, 97, 39}, {93, -33, 39}
        };
        for (int order = 0; order < 6; order++) {
            for (int p = 0; p < 3; p++) {
                check.due("24: order " + order + " element " + p, x.base(0, order, p), bases[order][p]);
            }
        }
        check.due("24: order 6", x.base(0, 6, 0), NO);
        check.due("24: order -1", x.base(0, -1, 0), NO);
        check.due("24: element 3", x.base(0, 0, 3), NO);
        check.due("24: element -1", x.base(0, 0, -1), NO);
        check.due("24: f", x.base(6, 0, 0), NO);
        check.due("24: f -1", x.base(-1, 0, 0), NO);
        check.due("24: missing", x.base(1, 0, 0), NO);
        LesseningGains one = Check.ofPoints(1);
        Check.tellAll(one, 0, 3, 1);
        check.due("24: one element", one.base(0, 0, 0), -2);
        check.due("24: one order", one.base(0, 1, 0), NO);
    }

    /** With value = size squared, an entry tells the place of its element in the order. */
    private static void ordersOfSix() {
        LesseningGains x = Check.ofPoints(6);
        for (int set = 0; set < 64; set++) {
            x.tell(0, set, Integer.bitCount(set) * Integer.bitCount(set));
        }
        places(x, 0, "012345");
        places(x, 719, "543210");
        places(x, 1, "012354");
        places(x, 120, "102345");
        places(x, 463, "351042");
        check.due("24: order 720", x.base(0, 720, 0), NO);
    }

    private static void places(LesseningGains x, int order, String elements) {
        for (int k = 0; k < 6; k++) {
            check.due("24: order " + order + " place " + k, x.base(0, order, elements.charAt(k) - '0'), 2 * k + 1);
        }
    }

    private static void negative() {
        LesseningGains x = Check.ofPoints(3);
        Check.tellAll(x, 0, 1, 10, 20, -5, 40, 3, 7, 100);
        long[] parts = {-15, -7, -25, -13, -37, -33};
        for (int order = 0; order < 6; order++) {
            check.due("25: order " + order, x.negative(0, order), parts[order]);
        }
        Check.tellAll(x, 1, 999999, -999999, 0, 0, 0, 0, 0, 0);
        check.due("25: great", x.negative(1, 0), -1999998);
        Check.tellAll(x, 2, 0, -1, -1, -3, -1, -3, -3, -6);
        check.due("25: several", x.negative(2, 4), -6);
        check.due("25: order 6", x.negative(0, 6), NO);
        check.due("25: order -1", x.negative(0, -1), NO);
        check.due("25: f", x.negative(6, 0), NO);
        check.due("25: missing", x.negative(3, 0), NO);
    }

    private static void based() {
        LesseningGains x = Check.ofPoints(3);
        Check.tellAll(x, 0, 10, 15, 22, 22, 17, 22, 22, 22);
        weights(x, 5, 5, 2);
        numbers(x, 1, 3, 1, 7);
        weights(x, 0, 12, 0);
        numbers(x, 1, 5, 2, 7);
        weights(x, 5, 6, 2);
        numbers(x, 0, 2, 1, 1);
        weights(x, 6, 4, 2);
        numbers(x, 0, 2, 7, 7);
        weights(x, 0, 0, 0);
        numbers(x, 0, 1, 7, 0);
        weights(x, 5, 3, 3);
        numbers(x, 0, 2, 1, 1);
        check.due("26: f", x.based(6, 0), NONE);
        check.due("26: what 4", x.based(1, 4), NONE);
        check.due("26: what -1", x.based(0, -1), NONE);
        check.due("26: missing", x.based(1, 0), MISSING);
    }

    private static void sixElements() {
        LesseningGains x = Check.ofPoints(6);
        for (int p = 0; p < 6; p++) {
            x.weight(p, -p);
        }
        x.weighed(0);
        numbers(x, 1, 64, 0, 63);
        check.due("25: six elements", x.negative(0, 719), -15);
        x.tell(0, 63, -16);
        numbers(x, 0, 63, 0, 63);
    }

    private static void weights(LesseningGains x, int a, int b, int c) {
        x.weight(0, a);
        x.weight(1, b);
        x.weight(2, c);
    }

    private static void numbers(LesseningGains x, int isBase, int tight, int common, int together) {
        check.due("26: base", x.based(0, 0), isBase);
        check.due("26: tight sets", x.based(0, 1), tight);
        check.due("26: intersection", x.based(0, 2), common);
        check.due("26: union", x.based(0, 3), together);
    }
}
