/** The edges of promises 8 to 18: setting functions and the operations on them. */
public final class FunctionsEdgesTest {
    private static final int NONE = LesseningGains.NONE;
    private static final int BAD = LesseningGains.BAD;
    private static final int STATE = LesseningGains.STATE;
    private static final int MISSING = LesseningGains.MISSING;
    private static final int DEEP = -1000000;
    private static final int TOP = 999999;
    private static final Check check = new Check();

    public static void main(String[] args) {
        promise8();
        tellMakesTold();
        promise9();
        promise10();
        promise11();
        promise12();
        settingTakesEveryFunction();
        promise13();
        sumAtTheLimits();
        promise14();
        promise15();
        cutBackAtTheLimits();
        promise16();
        partAtTheLimits();
        partErrors();
        promise17();
        promise18();
        check.end();
    }

    private static void promise8() {
        Run one = new Run(check, "8, one element").does("points(1)");
        one.due("tell(0, 0, 999999)", 0).due("tell(0, 0, -999999)", TOP).due("tell(0, 1, -999999)", 0);
        one.due("tell(0, 0, 0)", -TOP).due("tell(0, 1, 999999)", -TOP).has(0, 0, TOP);
        one.outside("tell(0, #, 5)", DEEP + BAD, 0, 1).outside("tell(1, #, 5)", DEEP + BAD, 0, 1);
        Run r = Run.rich(check, "8", 6);
        r.due("tell(5, 63, 999999)", 0).asks("of(5, 0)", 0).has(5, s -> s == 63 ? TOP : 0);
        r.due("tell(5, 0, -999999)", 0).due("tell(5, 63, 0)", TOP).has(5, s -> s == 0 ? -TOP : 0);
        r.due("tell(5, 0, -1)", -TOP).due("tell(5, 0, -1)", -1).due("tell(0, 63, 0)", 9).due("tell(0, 63, 8)", 0);
        r.outside("tell(#, 0, 5)", DEEP + NONE, 0, 5).outside("tell(0, #, 5)", DEEP + BAD, 0, 63);
        r.outside("tell(0, 63, #)", DEEP + BAD, -TOP, TOP).outside("tell(0, 0, #)", DEEP + BAD, -TOP, TOP);
        r.leaves("tell(6, 64, 0)", DEEP + NONE).leaves("tell(6, 0, 1000000)", DEEP + NONE);
        r.leaves("tell(-1, -1, -1000000)", DEEP + NONE).leaves("tell(0, 64, 1000000)", DEEP + BAD);
        Run missing = Run.rich(check, "8, missing", 6);
        missing.leaves("tell(5, 64, 0)", DEEP + BAD).leaves("tell(5, 0, 1000000)", DEEP + BAD);
        missing.leaves("tell(5, -1, 0)", DEEP + BAD).leaves("tell(5, 0, -1000000)", DEEP + BAD);
        // A refused call does not make it told either.
        missing.leaves("tell(1, 64, 0)", DEEP + BAD).leaves("tell(1, 0, 1000000)", DEEP + BAD).asks("of(1, 0)", 1);
    }

    private static void tellMakesTold() {
        Run r = new Run(check, "8").does("points(2); arc(0, 1, 3); item(0, 4, 2); weight(1, -6)");
        r.does("cut(1); cover(2); capped(3); weighed(4); turn(4, 5)");
        int[][] values = {{}, {0, 3, 0, 0}, {0, 0, 4, 4}, {0, 1, 1, 1}, {0, 0, -6, -6}, {-6, -6, 0, 0}};
        for (int f = 1; f < 6; f++) {
            r.asks(Run.text("of", f, 0), f).due(Run.text("tell", f, 2, 7), values[f][2]);
            r.asks(Run.text("of", f, 0), 0).has(f, values[f][0], values[f][1], 7, values[f][3]);
        }
        r.due("clear(1)", 0).due("tell(1, 1, 0)", 0).has(1, 0, 0, 0, 0);
    }

    private static void promise9() {
        new Run(check, "9, one element").does("points(1); tell(0, 0, 5); tell(0, 1, 6)").due("cut(0)", 0).has(0, 0, 0);
        Run two = new Run(check, "9, two elements").does("points(2); arc(0, 1, 99); arc(1, 0, 98)");
        two.due("cut(5)", 98).has(5, 0, 99, 98, 0);
        Run r = new Run(check, "9").does("points(6)").due("cut(5)", 0).has(5, s -> 0);
        for (int i = 0; i < 6; i++) {
            for (int j = 0; j < 6; j++) {
                if (i != j) {
                    r.does(Run.text("arc", i, j, 99));
                }
            }
        }
        r.due("cut(0)", 495).has(0, s -> 99 * Integer.bitCount(s) * (6 - Integer.bitCount(s)));
        Run arc = new Run(check, "9, one arc").does("points(6); arc(5, 0, 99)").due("cut(0)", 99);
        arc.has(0, s -> s >= 32 && s % 2 == 0 ? 99 : 0).does("arc(5, 0, 0); arc(0, 5, 7)").due("cut(0)", 0);
    }

    private static void promise10() {
        Run one = new Run(check, "10, one element").does("points(1)").due("cover(0)", 0).has(0, 0, 0);
        one.does("item(0, 99, 0)").due("cover(0)", 0).does("item(0, 99, 1); item(7, 1, 1)").due("cover(0)", 100);
        one.has(0, 0, 100);
        Run r = new Run(check, "10").does("points(6)");
        for (int item = 0; item < 8; item++) {
            r.does(Run.text("item", item, 99, 63));
        }
        r.due("cover(5)", 792).has(5, s -> s == 0 ? 0 : 792);
        Run apart = new Run(check, "10, apart").does("points(6); item(6, 50, 33); item(7, 99, 0)");
        for (int p = 0; p < 6; p++) {
            apart.does(Run.text("item", p, p, 1 << p));
        }
        apart.due("cover(0)", 65).asks("value(0, 0)", 0).asks("value(0, 1)", 50).asks("value(0, 33)", 55);
        apart.asks("value(0, 30)", 10).asks("value(0, 32)", 55).asks("value(0, 63)", 65);
    }

    private static void promise11() {
        Run one = new Run(check, "11, one element").does("points(1)").due("capped(0)", 1).has(0, 0, 1);
        one.does("cap(0, 6)").due("capped(0)", 1).does("cap(0, 0)").due("capped(0)", 0).has(0, 0, 0);
        Run r = new Run(check, "11").does("points(6)").due("capped(0)", 1).has(0, s -> s == 0 ? 0 : 1);
        r.does("cap(0, 0)").due("capped(0)", 0).has(0, s -> 0);
        r.does("cap(0, 6)").due("capped(0)", 6).has(0, Integer::bitCount);
        r.does("cap(0, 5)").due("capped(0)", 5).asks("value(0, 63)", 5).asks("value(0, 62)", 5).asks("value(0, 60)", 4);
        Run apart = new Run(check, "11, apart").does("points(6)");
        for (int p = 0; p < 6; p++) {
            apart.does(Run.text("block", p, p));
        }
        apart.due("capped(5)", 6).has(5, Integer::bitCount).does("cap(5, 0)").due("capped(5)", 5);
        apart.has(5, s -> Integer.bitCount(s & 31));
        // The cap of a block without elements adds nothing.
        apart.does("block(5, 0); cap(5, 6)").due("capped(5)", 5).has(5, s -> Integer.bitCount((s >> 5 | s) & 31));
    }

    private static void promise12() {
        Run one = new Run(check, "12, one element").does("points(1)").due("weighed(0)", 1000).has(0, 0, 0);
        one.does("weight(0, -99)").due("weighed(0)", 901).has(0, 0, -99);
        one.does("weight(0, 99)").due("weighed(0)", 1099).has(0, 0, 99);
        for (int v : new int[] {-99, 0, 99}) {
            Run r = new Run(check, "12").does("points(6)");
            for (int p = 0; p < 6; p++) {
                r.does(Run.text("weight", p, v));
            }
            r.due("weighed(5)", 1000 + 6 * v).has(5, s -> v * Integer.bitCount(s));
        }
    }

    /** Promises 9 to 12: every function can be set, one that is missing as well as one that is not, and no other. */
    private static void settingTakesEveryFunction() {
        String[] names = {"", "cut", "cover", "capped", "weighed"};
        for (int kind = 1; kind <= 4; kind++) {
            for (int n : new int[] {1, 6}) {
                Run.rich(check, 8 + kind + "", n).outside(names[kind] + "(#)", NONE, 0, 5);
            }
            String name = names[kind] + "(0)";
            Run onMissing = Run.rich(check, 8 + kind + "", 6).does("clear(0)").does(name);
            onMissing.asks("of(0, 0)", kind);
            Run.rich(check, 8 + kind + ", over old values", 6).tells(0, s -> 900000 + s).does(name).sameAs(onMissing);
        }
    }

    private static void promise13() {
        Run r = Run.rich(check, "13", 6);
        r.outside("sum(#, 1, 2)", NONE, 0, 5).outside("sum(1, #, 2)", NONE, 0, 5).outside("sum(1, 2, #)", NONE, 0, 5);
        r.leaves("sum(5, 0, 1)", MISSING).leaves("sum(0, 5, 1)", MISSING).leaves("sum(5, 5, 5)", MISSING);
        r.leaves("sum(5, 0, 6)", NONE).leaves("sum(6, 5, 0)", NONE).leaves("sum(5, 6, 0)", NONE);
        r.leaves("sum(5, 5, -1)", NONE).leaves("sum(-1, 5, 5)", NONE);
        r.due("sum(4, 4, 5)", 1).asks("of(5, 0)", 5).asks("value(5, 63)", -6).asks("value(5, 0)", 0);
        r.due("sum(5, 4, 5)", 1).asks("value(5, 63)", -9).due("sum(4, 5, 4)", 1).asks("value(4, 63)", -12);
        r.asks("of(4, 0)", 5).due("sum(4, 4, 4)", 1).asks("value(4, 63)", -24).asks("value(4, 1)", 24);
        Run one = new Run(check, "13, one element").does("points(1)").tells(0, 3, -4).tells(5, 1, 9);
        one.due("sum(0, 5, 1)", 1).has(1, 4, 5).has(0, 3, -4).has(5, 1, 9).due("sum(5, 0, 0)", 1).has(0, 4, 5);
    }

    private static void sumAtTheLimits() {
        for (int n : new int[] {1, 6}) {
            int all = (1 << n) - 1;
            for (int sign : new int[] {1, -1}) {
                for (int set : new int[] {0, all}) {
                    Run r = new Run(check, "13, limit of " + set).does("points(" + n + "); capped(2)");
                    r.does(Run.text("tell", 0, set, sign * TOP)).does(Run.text("tell", 1, set, sign));
                    r.leaves("sum(0, 1, 2)", STATE).leaves("sum(1, 0, 3)", STATE).leaves("sum(0, 1, 0)", STATE);
                    r.leaves("sum(0, 1, 1)", STATE).leaves("sum(0, 0, 0)", STATE).leaves("sum(0, 0, 5)", STATE);
                    r.leaves("sum(0, 4, 5)", MISSING).leaves("sum(0, 0, 6)", NONE);
                    r.does(Run.text("tell", 0, set, sign * (TOP - 1))).due("sum(0, 1, 2)", 1);
                    r.asks(Run.text("value", 2, set), sign * TOP).asks(Run.text("value", 2, all - set), 0);
                    r.does(Run.text("tell", 1, set, -sign * TOP)).due("sum(2, 1, 2)", 1);
                    r.asks(Run.text("value", 2, set), 0).asks("of(2, 0)", 5);
                }
            }
        }
    }

    private static void promise14() {
        Run one = new Run(check, "14, one element").does("points(1)").tells(0, TOP, -TOP);
        one.due("turn(0, 5)", 1).has(5, -TOP, TOP).has(0, TOP, -TOP).due("turn(0, 0)", 1).has(0, -TOP, TOP);
        Run r = Run.rich(check, "14", 6);
        r.outside("turn(#, 1)", NONE, 0, 5).outside("turn(1, #)", NONE, 0, 5);
        r.leaves("turn(5, 1)", MISSING).leaves("turn(5, 5)", MISSING).leaves("turn(5, 6)", NONE)
                .leaves("turn(6, 5)", NONE);
        r.tells(0, s -> s == 0 ? TOP : s == 63 ? -TOP : s);
        r.due("turn(0, 5)", 1).asks("of(5, 0)", 5).has(5, s -> s == 63 ? TOP : s == 0 ? -TOP : 63 - s);
        r.due("turn(5, 5)", 1).has(5, s -> s == 0 ? TOP : s == 63 ? -TOP : s).due("turn(4, 4)", 1).asks("of(4, 0)", 5);
    }

    private static void promise15() {
        Run one = new Run(check, "15, one element").does("points(1); weight(0, -99)").tells(0, 5, 3);
        one.due("cutBack(0, 5)", 1).has(5, 5, -94).asks("of(5, 0)", 5).does("weight(0, 99)").due("cutBack(0, 0)", 1);
        one.has(0, 5, 3).does("weight(0, -2)").due("cutBack(0, 0)", 1).has(0, 5, 3);
        Run r = Run.rich(check, "15", 6);
        r.outside("cutBack(#, 1)", NONE, 0, 5).outside("cutBack(1, #)", NONE, 0, 5);
        r.leaves("cutBack(5, 1)", MISSING).leaves("cutBack(5, 5)", MISSING);
        r.leaves("cutBack(5, 6)", NONE).leaves("cutBack(6, 5)", NONE);
        Run six = new Run(check, "15, six elements").does("points(6)").tells(0, s -> 10 * Integer.bitCount(s) - s);
        six.due("cutBack(0, 1)", 1).has(1, s -> 10 * Integer.bitCount(s & 48) - (s & 48));
        for (int p = 0; p < 6; p++) {
            six.does(Run.text("weight", p, p == 0 ? -99 : 99));
        }
        // Only element 0 is better left out.
        six.due("cutBack(0, 0)", 1).has(0, s -> (s & 1) * -99 + 10 * Integer.bitCount(s & 62) - (s & 62));
    }

    private static void cutBackAtTheLimits() {
        Run one = new Run(check, "15, lowest").does("points(1); weight(0, -99); tell(0, 0, -999901); tell(5, 1, 4)");
        one.leaves("cutBack(0, 0)", STATE).leaves("cutBack(0, 1)", STATE).leaves("cutBack(0, 5)", STATE);
        one.leaves("cutBack(0, 6)", NONE).does("tell(0, 0, -999900)").due("cutBack(0, 5)", 1).has(5, -999900, -TOP);
        Run six = new Run(check, "15, lowest of six").does("points(6); tell(0, 0, -999406)");
        for (int p = 0; p < 6; p++) {
            six.does(Run.text("weight", p, -99));
        }
        six.leaves("cutBack(0, 0)", STATE).leaves("cutBack(0, 5)", STATE).does("tell(0, 0, -999405)");
        six.due("cutBack(0, 5)", 1).has(5, s -> -999405 - 99 * Integer.bitCount(s));
        Run top = new Run(check, "15, greatest").does("points(6)").tells(0, s -> TOP);
        for (int p = 0; p < 6; p++) {
            top.does(Run.text("weight", p, 99));
        }
        top.due("cutBack(0, 5)", 1).has(5, s -> TOP);
    }

    private static void promise16() {
        Run one = new Run(check, "16, one element").does("points(1)").tells(0, 3, -7);
        one.due("part(0, 0, 0, 1)", 1).has(1, 3, 3).due("part(0, 1, 0, 1)", 1).has(1, 3, -7);
        one.due("part(0, 0, 1, 1)", 1).has(1, 0, -10).due("part(0, 1, 1, 1)", 1).has(1, 0, 0);
        Run r = new Run(check, "16").does("points(6)").tells(0, s -> 10 * s - 3);
        r.due("part(0, 0, 0, 5)", 1).asks("of(5, 0)", 5).has(5, s -> -3);
        r.due("part(0, 63, 0, 5)", 1).has(5, s -> 10 * s - 3).due("part(0, 42, 0, 5)", 1)
                .has(5, s -> 10 * (s & 42) - 3);
        Run c = new Run(check, "16, contraction").does("points(6)").tells(0, s -> 10 * s - 3);
        c.due("part(0, 0, 1, 5)", 1).asks("of(5, 0)", 5).has(5, s -> 10 * s).due("part(0, 63, 1, 5)", 1).has(5, s -> 0);
        c.due("part(0, 42, 1, 5)", 1).has(5, s -> 10 * (s & 21)).due("part(0, 32, 1, 0)", 1).has(0, s -> 10 * (s & 31));
        new Run(check, "16, onto itself").does("points(6)").tells(0, s -> 7 * s + 1).due("part(0, 31, 0, 0)", 1)
                .has(0, s -> 7 * (s & 31) + 1).asks("of(0, 0)", 5);
    }

    private static void partAtTheLimits() {
        for (int n : new int[] {1, 6}) {
            int all = (1 << n) - 1;
            for (int sign : new int[] {1, -1}) {
                Run r = new Run(check, "16, limit").does("points(" + n + "); capped(2)")
                        .does("tell(0, 0, " + -sign + ")");
                r.does(Run.text("tell", 0, all, sign * TOP));
                r.leaves("part(0, 0, 1, 1)", STATE).leaves("part(0, 0, 1, 0)", STATE).leaves("part(0, 0, 1, 2)", STATE);
                r.leaves("part(0, 0, 1, 6)", NONE).leaves(Run.text("part", 0, all + 1, 1, 1), BAD);
                r.due(Run.text("part", 0, all, 0, 1), 1).asks(Run.text("value", 1, all), sign * TOP);
                r.due(Run.text("part", 0, all, 1, 1), 1).asks(Run.text("value", 1, all), 0);
                r.does(Run.text("tell", 0, all, sign * (TOP - 1))).due("part(0, 0, 1, 2)", 1);
                r.asks(Run.text("value", 2, all), sign * TOP).asks("value(2, 0)", 0).asks("of(2, 0)", 5);
            }
        }
        // The values that no union with the set reaches do not count.
        Run hidden = new Run(check, "16, hidden").does("points(2)").tells(0, -TOP, 1, TOP, 2);
        hidden.due("part(0, 1, 1, 1)", 1).has(1, 0, 0, 1, 1).due("part(0, 2, 1, 1)", 1)
                .has(1, 0, -999997, 0, -999997).leaves("part(0, 0, 1, 1)", STATE);
    }

    private static void partErrors() {
        Run r = Run.rich(check, "16", 6);
        r.outside("part(#, 1, 0, 2)", NONE, 0, 5).outside("part(1, 1, 0, #)", NONE, 0, 5);
        r.outside("part(1, #, 0, 2)", BAD, 0, 63).outside("part(1, #, 1, 2)", BAD, 0, 63);
        r.outside("part(1, 1, #, 2)", BAD, 0, 1);
        r.leaves("part(6, 64, 2, 0)", NONE).leaves("part(0, 64, 2, 6)", NONE).leaves("part(5, 0, 0, 6)", NONE);
        r.leaves("part(5, 64, 0, 0)", BAD).leaves("part(5, 0, 2, 0)", BAD).leaves("part(5, -1, 1, 5)", BAD);
        r.leaves("part(5, 0, 0, 0)", MISSING).leaves("part(5, 63, 1, 5)", MISSING);
        Run.rich(check, "16", 1).outside("part(0, #, 0, 2)", BAD, 0, 1).outside("part(0, #, 1, 2)", BAD, 0, 1);
    }

    private static void promise17() {
        Run one = new Run(check, "17, one element").does("points(1)").tells(0, TOP, -TOP);
        one.due("held(0, 999999, 1)", 1).has(1, TOP, -TOP).due("held(0, -999999, 1)", 1).has(1, -TOP, -TOP);
        one.due("held(0, 999998, 0)", 1).has(0, 999998, -TOP).asks("of(0, 0)", 5);
        Run six = new Run(check, "17, six elements").does("points(6)").tells(0, s -> s - 32);
        six.due("held(0, 0, 5)", 1).asks("of(5, 0)", 5).has(5, s -> Math.min(s - 32, 0));
        six.due("held(0, 31, 5)", 1).has(5, s -> s - 32).due("held(0, 30, 0)", 1).has(0, s -> Math.min(s - 32, 30));
        for (int n : new int[] {1, 6}) {
            Run r = Run.rich(check, "17", n);
            r.outside("held(#, 1, 2)", NONE, 0, 5).outside("held(1, 1, #)", NONE, 0, 5);
            r.outside("held(1, #, 2)", BAD, -TOP, TOP);
            r.leaves("held(6, 1000000, 0)", NONE).leaves("held(0, -1000000, 6)", NONE).leaves("held(5, 0, 6)", NONE);
            r.leaves("held(5, 1000000, 0)", BAD).leaves("held(5, -1000000, 5)", BAD);
            r.leaves("held(5, 999999, 0)", MISSING).leaves("held(5, -999999, 5)", MISSING);
        }
    }

    private static void promise18() {
        for (int n : new int[] {1, 6}) {
            Run r = Run.rich(check, "18", n).outside("clear(#)", NONE, 0, 5).leaves("clear(5)", MISSING);
            r.does("turn(0, 5)").asks("count(1)", 6);
            for (int f = 0; f < 6; f++) {
                r.due(Run.text("clear", f), f).leaves(Run.text("clear", f), MISSING).asks("count(1)", 5 - f);
                r.asks(Run.text("value", f, 0), DEEP + MISSING);
            }
            r.due("tell(0, 1, 0)", 0).asks("value(0, 0)", 0);
        }
        Run before = new Run(check, "18").does("points(6); capped(1)");
        new Run(check, "18").does("points(6); capped(1); tell(0, 0, 4); tell(0, 63, 5); clear(0)").sameAs(before);
    }
}
