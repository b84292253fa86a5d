import java.util.ArrayList;
import java.util.List;

/** The edges of promises 24 to 26: base vectors, negative parts and the weights as a base. */
public final class BasesEdgesTest {
    private static final int NONE = LesseningGains.NONE;
    private static final int MISSING = LesseningGains.MISSING;
    private static final long NO = LesseningGains.NO;
    private static final int TOP = 999999;
    private static final Check check = new Check();

    public static void main(String[] args) {
        promise24();
        everyOrder();
        promise25();
        promise26();
        basesOfOneElement();
        basesOfSixElements();
        basesNearlyReached();
        emptySetWithAValue();
        check.end();
    }

    private static void promise24() {
        Run one = new Run(check, "24, one element").does("points(1)").tells(0, TOP, -TOP);
        one.leaves("base(0, 0, 0)", -2 * TOP).does("turn(0, 0)").leaves("base(0, 0, 0)", 2 * TOP);
        one.outside("base(0, #, 0)", NO, 0, 0).outside("base(0, 0, #)", NO, 0, 0);
        Run two = new Run(check, "24, two elements").does("points(2)").tells(0, 5, 7, 11, 20);
        two.leaves("base(0, 0, 0)", 2).leaves("base(0, 0, 1)", 13).leaves("base(0, 1, 0)", 9)
                .leaves("base(0, 1, 1)", 6);
        two.outside("base(0, #, 1)", NO, 0, 1);
        Run r = Run.rich(check, "24", 6);
        r.leaves("base(0, 0, 0)", 3).leaves("base(0, 0, 5)", 9).leaves("base(0, 719, 0)", 9)
                .leaves("base(0, 719, 5)", 3);
        r.outside("base(#, 0, 0)", NO, 0, 5).outside("base(0, #, 0)", NO, 0, 719).outside("base(0, 0, #)", NO, 0, 5);
        r.leaves("base(5, 0, 0)", NO).leaves("base(5, 719, 5)", NO).leaves("base(6, 720, 6)", NO);
        Run.rich(check, "24", 5).leaves("base(0, 119, 4)", 3).leaves("base(0, 120, 4)", NO);
    }

    /** All orders, as they come one after the other in lexicographic order. */
    private static void everyOrder() {
        for (int n = 1; n <= 6; n++) {
            List<String> orders = new ArrayList<>();
            collect("", "012345".substring(0, n), orders);
            for (int from = 0; from < orders.size(); from += 60) {
                orders(n, orders, from);
            }
        }
    }

    private static void collect(String begun, String rest, List<String> orders) {
        if (rest.isEmpty()) {
            orders.add(begun);
        }
        for (int i = 0; i < rest.length(); i++) {
            collect(begun + rest.charAt(i), rest.substring(0, i) + rest.substring(i + 1), orders);
        }
    }

    /** With the square of a set's size as its value, an entry tells the place of its element in the order. */
    private static void orders(int n, List<String> orders, int from) {
        Run r = new Run(check, "24, orders of " + n).does("points(" + n + ")");
        for (int set = 1; set < 1 << n; set++) {
            r.does(Run.text("tell", 0, set, Integer.bitCount(set) * Integer.bitCount(set)));
        }
        for (int order = from; order < from + 60 && order < orders.size(); order++) {
            for (int p = 0; p < n; p++) {
                r.asks(Run.text("base", 0, order, p), 2 * orders.get(order).indexOf('0' + p) + 1);
            }
        }
    }

    private static void promise25() {
        Run one = new Run(check, "25, one element").does("points(1)").tells(0, TOP, -TOP);
        one.leaves("negative(0, 0)", -2 * TOP).outside("negative(0, #)", NO, 0, 0);
        one.does("turn(0, 0)").leaves("negative(0, 0)", 0).does("tell(0, 0, 999999)").leaves("negative(0, 0)", 0);
        one.does("tell(0, 1, 999998)").leaves("negative(0, 0)", -1);
        Run six = new Run(check, "25, six elements").does("points(6)");
        six.tells(0, s -> Integer.bitCount(s) % 2 == 0 ? TOP : -TOP);
        six.leaves("negative(0, 0)", -6 * TOP).leaves("negative(0, 719)", -6 * TOP);
        six.does("turn(0, 0)").leaves("negative(0, 0)", -6 * TOP);
        Run r = Run.rich(check, "25", 6);
        r.leaves("negative(0, 0)", 0).leaves("negative(4, 0)", -18).leaves("negative(4, 719)", -18);
        r.outside("negative(#, 0)", NO, 0, 5).outside("negative(0, #)", NO, 0, 719);
        r.leaves("negative(5, 0)", NO).leaves("negative(5, 719)", NO).leaves("negative(6, 720)", NO);
        Run two = new Run(check, "25, two elements").does("points(2)").tells(0, 5, 7, 1, 3);
        two.leaves("negative(0, 0)", -4).leaves("negative(0, 1)", -4).does("tell(0, 3, 0)");
        two.leaves("negative(0, 0)", -7).leaves("negative(0, 1)", -5);
    }

    private static void promise26() {
        for (int n : new int[] {1, 6}) {
            Run r = Run.rich(check, "26", n);
            r.outside("based(#, 0)", NONE, 0, 5).outside("based(0, #)", NONE, 0, 3);
            for (int what = 0; what <= 3; what++) {
                r.leaves(Run.text("based", 5, what), MISSING).leaves(Run.text("based", 6, what), NONE);
            }
            r.leaves("based(5, 4)", NONE).leaves("based(5, -1)", NONE).leaves("based(6, 4)", NONE);
        }
    }

    private static void numbers(Run r, int isBase, int tight, int common, int together) {
        r.leaves("based(0, 0)", isBase).leaves("based(0, 1)", tight);
        r.leaves("based(0, 2)", common).leaves("based(0, 3)", together);
    }

    private static void basesOfOneElement() {
        Run r = new Run(check, "26, one element").does("points(1)").tells(0, 2, 7);
        numbers(r.does("weight(0, 5)"), 1, 2, 1, 1);
        numbers(r.does("weight(0, 4)"), 0, 1, 1, 0);
        numbers(r.does("weight(0, 6)"), 0, 1, 1, 0);
        numbers(r.does("weight(0, -5); tell(0, 1, -3)"), 1, 2, 1, 1);
    }

    private static void basesOfSixElements() {
        Run modular = new Run(check, "26, modular").does("points(6)");
        for (int p = 0; p < 6; p++) {
            modular.does(Run.text("weight", p, p % 2 == 0 ? 99 : -99));
        }
        numbers(modular.does("weighed(0)"), 1, 64, 0, 63);
        numbers(modular.does("weight(5, -98)"), 0, 32, 0, 31);
        numbers(modular.does("weight(5, 99)"), 0, 32, 0, 31);
        Run flat = new Run(check, "26, flat").does("points(6); item(0, 5, 63); cover(0); weight(0, 5)");
        numbers(flat, 1, 33, 1, 63);
        numbers(flat.does("weight(0, 0); weight(5, 5)"), 1, 33, 32, 63);
        numbers(flat.does("weight(5, 4)"), 0, 1, 63, 0);
        numbers(flat.does("weight(5, 6)"), 0, 1, 63, 0);
        numbers(flat.does("weight(5, -1); weight(0, 5)"), 0, 17, 1, 31);
    }

    /** One too much in one set, or one too little in ALL. */
    private static void basesNearlyReached() {
        Run r = new Run(check, "26, nearly").does("points(2); weight(0, 3); weight(1, 4)").tells(0, 0, 3, 4, 7);
        numbers(r, 1, 4, 0, 3);
        numbers(r.does("tell(0, 1, 2)"), 0, 3, 2, 3);
        numbers(r.does("tell(0, 1, 4)"), 1, 3, 2, 3);
        numbers(r.does("tell(0, 2, 5)"), 1, 2, 3, 3);
        numbers(r.does("tell(0, 3, 8)"), 0, 1, 3, 0);
        numbers(r.does("tell(0, 3, 6)"), 0, 1, 3, 0);
    }

    private static void emptySetWithAValue() {
        Run r = new Run(check, "26, empty set").does("points(2); weight(0, 3); weight(1, 4)").tells(0, 9, 12, 13, 16);
        numbers(r, 1, 4, 0, 3);
        numbers(r.does("tell(0, 0, 8)"), 0, 1, 3, 0);
        numbers(r.does("tell(0, 0, 10)"), 0, 1, 3, 0);
        numbers(r.does("tell(0, 0, -999999); tell(0, 3, 999999)"), 0, 1, 3, 0);
        numbers(r.tells(0, TOP, -TOP, -TOP, -TOP), 0, 1, 3, 0);
        numbers(r.does("weight(0, 0); weight(1, 0)").tells(0, TOP, TOP, TOP, TOP), 1, 4, 0, 3);
        numbers(r.tells(0, -TOP, -TOP, TOP, -TOP), 1, 3, 1, 3);
    }
}
