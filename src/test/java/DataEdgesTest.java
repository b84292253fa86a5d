/** The edges of promises 1 to 7: a new object, the elements and the data. */
public final class DataEdgesTest {
    private static final int NONE = LesseningGains.NONE;
    private static final int BAD = LesseningGains.BAD;
    private static final int STATE = LesseningGains.STATE;
    private static final int MISSING = LesseningGains.MISSING;
    private static final int DEEP = -1000000;
    private static final long NO = LesseningGains.NO;
    private static final Check check = new Check();

    public static void main(String[] args) {
        promise1();
        promise2();
        pointsMakesAllAsAtFirst();
        pointsLeavesListsAndTexts();
        promise3();
        promise4();
        promise5();
        promise6();
        promise7();
        check.end();
    }

    private static void promise1() {
        Run r = new Run(check, "1");
        isAsAtFirst(r, 4);
        r.asks("count(4)", 0).asks("count(5)", 0).leaves("paper(0)", NONE);
        for (int list = 0; list < 4; list++) {
            r.leaves(Run.text("put", list, 0, 0), MISSING);
            r.leaves(Run.text("get", list, 0), NO);
            r.leaves(Run.text("lay", 0, list), MISSING);
        }
        r.leaves("back()", STATE);
        r.idle("", -100);
    }

    /** The elements, data and functions of an object of n elements; most of it is set anew by asking. */
    private static void isAsAtFirst(Run r, int n) {
        int all = (1 << n) - 1;
        r.asks("count(0)", n).asks("count(1)", 0).asks("count(2)", 0).asks("count(3)", 0);
        for (int f = 0; f < 6; f++) {
            r.asks(Run.text("of", f, 0), MISSING);
            r.asks(Run.text("value", f, 0), DEEP + MISSING);
            r.asks(Run.text("value", f, all), DEEP + MISSING);
        }
        r.due("capped(0)", 1).due("clear(0)", 3);
        for (int p = 0; p < n; p++) {
            for (int q = 0; q < n; q++) {
                r.due(Run.text("arc", p, q, 0), p == q ? NONE : 0);
            }
            r.due(Run.text("block", p, 0), 0).due(Run.text("weight", p, 0), 0);
        }
        for (int item = 0; item < 8; item++) {
            r.due(Run.text("item", item, 0, 0), 0);
        }
        for (int block = 0; block < 6; block++) {
            r.due(Run.text("cap", block, 1), 1);
        }
        for (int f = 0; f < 6; f++) {
            r.due(Run.text("tell", f, all, 0), 0);
            r.asks(Run.text("value", f, 0), 0).asks(Run.text("value", f, 1), 0).asks(Run.text("value", f, all), 0);
            r.due(Run.text("clear", f), 0);
        }
    }

    private static void promise2() {
        int previous = 4;
        Run r = new Run(check, "2");
        for (int n : new int[] {1, 2, 3, 4, 5, 6, 6, 1, 1}) {
            r.due(Run.text("points", n), previous).asks("count(0)", n);
            r.asks(Run.text("weight", n - 1, 0), 0).asks(Run.text("weight", n, 0), DEEP + NONE);
            previous = n;
        }
        for (int n : new int[] {1, 4, 6}) {
            Run.rich(check, "2", n).outside("points(#)", BAD, 1, 6);
        }
    }

    private static void pointsMakesAllAsAtFirst() {
        for (int[] change : new int[][] {{1, 1}, {1, 6}, {4, 4}, {5, 6}, {6, 6}, {6, 5}, {6, 1}}) {
            Run r = Run.rich(check, "2: from " + change[0] + " to " + change[1], change[0]);
            r.due(Run.text("points", change[1]), change[0]);
            isAsAtFirst(r, change[1]);
        }
        // What fewer elements hid is not there again with more.
        Run r = Run.rich(check, "2: there and back", 6).does("points(1); points(6)");
        isAsAtFirst(r, 6);
    }

    private static void pointsLeavesListsAndTexts() {
        for (int n : new int[] {1, 4, 6}) {
            Run r = Run.rich(check, "2: the rest", 4).does(Run.text("points", n));
            r.onPaper("-3 0 0 0 0 0 0 0 0 0 0 0 0 0 0 8");
            r.asks("get(0, 0)", -3).asks("get(0, 1)", 4).asks("get(0, 2)", NO);
            r.asks("put(1, 0, 0)", -13).asks("put(3, 0, 0)", MISSING);
            r.asks("get(2, 0)", 1000000).asks("get(2, 63)", -7);
            r.asks("count(4)", 26).due("deeds()", 3).asks("count(1)", 2).asks("value(5, 1)", 9);
            r.due("back()", 4).asks("count(0)", 4).asks("value(0, 15)", 8).asks("of(4, 0)", MISSING);
        }
    }

    private static void promise3() {
        Run one = Run.rich(check, "3", 1);
        one.leaves("arc(0, 0, 0)", NONE).leaves("arc(0, 1, 0)", NONE).leaves("arc(1, 0, 0)", NONE);
        Run two = new Run(check, "3").does("points(2)");
        two.due("arc(0, 1, 99)", 0).due("arc(1, 0, 1)", 0).due("arc(0, 1, 0)", 99).due("arc(1, 0, 0)", 1);
        Run r = Run.rich(check, "3", 6);
        r.due("arc(0, 5, 0)", 6).asks("count(2)", 29).due("arc(0, 5, 99)", 0).due("arc(0, 5, 99)", 99);
        r.due("arc(5, 0, 99)", 36).due("arc(5, 4, 0)", 40).due("arc(4, 5, 1)", 34).due("arc(5, 4, 2)", 0);
        r.outside("arc(#, 1, 5)", NONE, 0, 5).outside("arc(1, #, 5)", NONE, 0, 5);
        r.outside("arc(0, 5, #)", BAD, 0, 99).outside("arc(5, 0, #)", BAD, 0, 99);
        for (int p = 0; p < 6; p++) {
            r.leaves(Run.text("arc", p, p, 5), NONE);
        }
        r.leaves("arc(6, 0, 100)", NONE).leaves("arc(0, 6, 100)", NONE).leaves("arc(-1, 0, -1)", NONE);
        r.leaves("arc(0, -1, -1)", NONE).leaves("arc(2, 2, 100)", NONE).leaves("arc(6, 6, 0)", NONE);
        Run.rich(check, "3", 4).leaves("arc(4, 0, 5)", NONE).leaves("arc(3, 4, 5)", NONE).due("arc(3, 2, 0)", 24);
    }

    private static void promise4() {
        Run one = Run.rich(check, "4", 1);
        one.due("item(0, 0, 1)", 31).due("item(0, 99, 0)", 0).due("item(7, 99, 1)", 27).due("item(7, 5, 1)", 99);
        one.outside("item(0, 5, #)", BAD, 0, 1);
        Run r = Run.rich(check, "4", 6);
        r.due("item(7, 0, 63)", 27).asks("count(3)", 7).due("item(7, 99, 63)", 0).due("item(7, 99, 0)", 99);
        r.due("item(0, 99, 63)", 31);
        r.outside("item(#, 5, 1)", NONE, 0, 7).outside("item(0, #, 1)", BAD, 0, 99);
        r.outside("item(7, #, 1)", BAD, 0, 99).outside("item(0, 5, #)", BAD, 0, 63);
        r.leaves("item(8, 100, 1)", NONE).leaves("item(8, 1, 64)", NONE).leaves("item(-1, -1, -1)", NONE);
        r.leaves("item(7, 100, 64)", BAD).leaves("item(7, -1, 0)", BAD).leaves("item(7, 0, -1)", BAD);
        Run.rich(check, "4", 4).due("item(1, 4, 15)", 21).leaves("item(1, 4, 16)", BAD);
    }

    private static void promise5() {
        Run one = Run.rich(check, "5", 1);
        one.due("block(0, 5)", 0).due("block(0, 0)", 5).outside("block(#, 0)", NONE, 0, 0);
        Run r = Run.rich(check, "5", 6);
        r.due("block(5, 5)", 0).due("block(5, 5)", 5).due("block(5, 0)", 5).due("block(0, 5)", 0).due("block(1, 0)", 2);
        r.outside("block(#, 3)", NONE, 0, 5).outside("block(3, #)", NONE, 0, 5).leaves("block(6, 6)", NONE);
        Run.rich(check, "5", 4).due("block(3, 0)", 4).leaves("block(4, 0)", NONE);
    }

    private static void promise6() {
        for (int n : new int[] {1, 6}) {
            Run r = Run.rich(check, "6", n);
            r.due("cap(0, 6)", 0).due("cap(0, 0)", 6).due("cap(5, 0)", 5).due("cap(5, 6)", 0).due("cap(5, 1)", 6);
            r.outside("cap(#, 3)", NONE, 0, 5).outside("cap(0, #)", BAD, 0, 6).outside("cap(5, #)", BAD, 0, 6);
            r.leaves("cap(6, 7)", NONE).leaves("cap(-1, -1)", NONE);
        }
    }

    private static void promise7() {
        Run one = Run.rich(check, "7", 1);
        one.due("weight(0, -99)", 50).due("weight(0, 99)", -99).due("weight(0, 0)", 99).due("weight(0, -1)", 0);
        one.outside("weight(#, 0)", DEEP + NONE, 0, 0);
        Run r = Run.rich(check, "7", 6);
        r.due("weight(5, 99)", -8).due("weight(5, -99)", 99).due("weight(5, -1)", -99).due("weight(5, 7)", -1);
        r.outside("weight(#, 3)", DEEP + NONE, 0, 5).outside("weight(0, #)", DEEP + BAD, -99, 99);
        r.outside("weight(5, #)", DEEP + BAD, -99, 99);
        r.leaves("weight(6, 100)", DEEP + NONE).leaves("weight(-1, -100)", DEEP + NONE);
        Run.rich(check, "7", 4).due("weight(3, 0)", -6).leaves("weight(4, 0)", DEEP + NONE);
    }
}
