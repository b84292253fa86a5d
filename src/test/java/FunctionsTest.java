/** Promises 8 to 23: the functions, the operations on them and their properties. */
public final class FunctionsTest {
    private static final int NONE = LesseningGains.NONE;
    private static final int BAD = LesseningGains.BAD;
    private static final int STATE = LesseningGains.STATE;
    private static final int NOT = LesseningGains.NOT;
    private static final int MISSING = LesseningGains.MISSING;
    private static final int DEEP = -1000000;
    private static final long NO = LesseningGains.NO;
    private static final int TOP = 999999;
    private static final Check check = new Check();

    public static void main(String[] args) {
        tell();
        cut();
        cover();
        capped();
        weighed();
        valuesAreKept();
        sum();
        turn();
        cutBack();
        part();
        held();
        clear();
        of();
        taken();
        value();
        gain();
        fails();
        sixElements();
        check.end();
    }

    private static void tell() {
        LesseningGains x = Check.ofPoints(2);
        check.due("8: missing", x.tell(5, 2, -TOP), 0);
        check.table("8: the other values are 0", x, 5, "0 0 -999999 0");
        check.due("8: again", x.tell(5, 2, TOP), -TOP);
        check.due("8: kind", x.of(5, 0), 0);
        check.due("8: function 6", x.tell(6, 4, 0), DEEP + NONE);
        check.due("8: function -1", x.tell(-1, 0, 0), DEEP + NONE);
        check.due("8: set 4", x.tell(5, 4, 0), DEEP + BAD);
        check.due("8: set -1", x.tell(5, -1, 0), DEEP + BAD);
        check.due("8: too great", x.tell(5, 0, TOP + 1), DEEP + BAD);
        check.due("8: too small", x.tell(5, 0, -TOP - 1), DEEP + BAD);
        check.due("8: an error leaves it missing", x.tell(4, 4, 0), DEEP + BAD);
        check.due("8: still missing", x.of(4, 0), MISSING);
        x.capped(5);
        check.due("8: of another kind", x.tell(5, 3, 8), 1);
        check.table("8: the others stay", x, 5, "0 1 1 8");
        check.due("8: kind becomes told", x.of(5, 0), 0);
        x.clear(5);
        check.due("8: cleared", x.tell(5, 0, 3), 0);
        check.table("8: cleared values are 0", x, 5, "3 0 0 0");
    }

    private static void cut() {
        LesseningGains x = Check.ofPoints(3);
        x.arc(0, 1, 1);
        x.arc(1, 0, 2);
        x.arc(0, 2, 4);
        x.arc(2, 0, 8);
        x.arc(1, 2, 16);
        x.arc(2, 1, 32);
        check.due("9: answer", x.cut(0), 10);
        check.table("9: loads", x, 0, "0 5 18 20 40 33 10 0");
        check.due("9: kind", x.of(0, 0), 1);
        check.due("9: function 6", x.cut(6), NONE);
        check.due("9: function -1", x.cut(-1), NONE);
        LesseningGains one = Check.ofPoints(1);
        one.tell(0, 0, 5);
        check.due("9: one element", one.cut(0), 0);
        check.table("9: one element", one, 0, "0 0");
    }

    private static void cover() {
        LesseningGains x = Check.ofPoints(3);
        x.item(0, 5, 3);
        x.item(7, 7, 6);
        x.item(3, 90, 0);
        check.due("10: answer", x.cover(5), 12);
        check.table("10: items", x, 5, "0 5 12 12 7 12 12 12");
        check.due("10: kind", x.of(5, 0), 2);
        check.due("10: function 6", x.cover(6), NONE);
        check.due("10: function -1", x.cover(-1), NONE);
    }

    private static void capped() {
        LesseningGains x = Check.ofPoints(3);
        check.due("11: at first", x.capped(0), 1);
        x.cap(0, 2);
        x.block(2, 5);
        check.due("11: answer", x.capped(1), 3);
        check.table("11: two blocks", x, 1, "0 1 1 2 1 2 2 3");
        x.cap(5, 0);
        check.due("11: cap 0", x.capped(1), 2);
        check.table("11: cap 0", x, 1, "0 1 1 2 0 1 1 2");
        x.cap(0, 1);
        x.capped(1);
        check.table("11: cap 1", x, 1, "0 1 1 1 0 1 1 1");
        check.due("11: kind", x.of(1, 0), 3);
        check.due("11: function 6", x.capped(6), NONE);
        check.due("11: function -1", x.capped(-1), NONE);
    }

    private static void weighed() {
        LesseningGains x = Check.ofPoints(3);
        x.weight(0, -4);
        x.weight(1, 3);
        x.weight(2, -2);
        check.due("12: answer", x.weighed(2), 997);
        check.table("12: weights", x, 2, "0 -4 3 -1 -2 -6 1 -3");
        check.due("12: kind", x.of(2, 0), 4);
        check.due("12: function 6", x.weighed(6), NONE);
        check.due("12: function -1", x.weighed(-1), NONE);
        LesseningGains six = Check.ofPoints(6);
        for (int i = 0; i < 6; i++) {
            six.weight(i, -99);
        }
        check.due("12: lowest", six.weighed(0), 406);
    }

    private static void valuesAreKept() {
        LesseningGains x = Check.ofPoints(2);
        x.weight(0, 4);
        x.weighed(0);
        x.sum(0, 0, 1);
        x.weight(0, 9);
        x.weighed(2);
        x.tell(0, 1, 50);
        check.table("12: later data do not change it", x, 1, "0 8 0 8");
        check.table("12: nor other functions", x, 2, "0 9 0 9");
        x.tell(0, 0, 7);
        x.sum(0, 0, 0);
        x.cut(1);
        check.due("9: the empty set has its own value", x.value(1, 0), 0);
    }

    private static void sum() {
        LesseningGains x = Check.ofPoints(2);
        Check.tellAll(x, 0, 1, 2, 3, 4);
        Check.tellAll(x, 1, 10, -20, 30, TOP - 4);
        check.due("13: answer", x.sum(0, 1, 2), 1);
        check.table("13: values", x, 2, "11 -18 33 999999");
        check.due("13: kind", x.of(2, 0), 5);
        check.due("13: f missing", x.sum(3, 0, 2), MISSING);
        check.due("13: g missing", x.sum(0, 3, 2), MISSING);
        check.due("13: f", x.sum(6, 3, 2), NONE);
        check.due("13: g", x.sum(3, -1, 2), NONE);
        check.due("13: to", x.sum(3, 3, 6), NONE);
        check.due("13: too great", x.sum(2, 0, 2), STATE);
        check.table("13: unchanged", x, 2, "11 -18 33 999999");
        check.due("13: with itself, onto itself", x.sum(0, 0, 0), 1);
        check.table("13: doubled", x, 0, "2 4 6 8");
        check.due("13: onto g", x.sum(0, 2, 2), STATE);
        x.tell(2, 3, 0);
        check.due("13: onto g in range", x.sum(0, 2, 2), 1);
        check.table("13: onto g", x, 2, "13 -14 39 8");
        Check.tellAll(x, 3, -TOP, 0, 0, 0);
        Check.tellAll(x, 4, -1, 0, 0, 0);
        check.due("13: too small", x.sum(3, 4, 5), STATE);
        check.due("13: stays missing", x.of(5, 0), MISSING);
        x.points(3);
        Check.tellAll(x, 0, TOP, TOP, TOP, TOP, TOP, TOP, TOP, TOP);
        check.due("13: all too great", x.sum(0, 0, 1), STATE);
        x.points(2);
        x.tell(0, 3, 4);
        check.due("13: nothing is left of it", x.sum(0, 0, 1), 1);
        check.table("13: nothing is left of it", x, 1, "0 0 0 8");
    }

    private static void turn() {
        LesseningGains x = Check.ofPoints(2);
        Check.tellAll(x, 0, 1, 2, 3, 4);
        check.due("14: answer", x.turn(0, 5), 1);
        check.table("14: values", x, 5, "4 3 2 1");
        check.due("14: kind", x.of(5, 0), 5);
        check.due("14: onto itself", x.turn(0, 0), 1);
        check.table("14: onto itself", x, 0, "4 3 2 1");
        check.due("14: missing", x.turn(1, 5), MISSING);
        check.due("14: f", x.turn(6, 5), NONE);
        check.due("14: f -1", x.turn(-1, 5), NONE);
        check.due("14: to before missing", x.turn(1, 6), NONE);
        check.due("14: to -1", x.turn(0, -1), NONE);
        check.table("14: errors change nothing", x, 5, "4 3 2 1");
    }

    private static void cutBack() {
        LesseningGains x = Check.ofPoints(3);
        Check.tellAll(x, 0, 0, 5, 4, 7, 3, 6, 9, 8);
        x.weight(0, 2);
        x.weight(1, -1);
        x.weight(2, 6);
        check.due("15: answer", x.cutBack(0, 1), 1);
        check.table("15: values", x, 1, "0 2 -1 1 3 5 2 4");
        check.due("15: kind", x.of(1, 0), 5);
        check.due("15: onto itself", x.cutBack(0, 0), 1);
        check.table("15: onto itself", x, 0, "0 2 -1 1 3 5 2 4");
        check.due("15: missing", x.cutBack(2, 1), MISSING);
        check.due("15: f", x.cutBack(6, 1), NONE);
        check.due("15: to before missing", x.cutBack(2, -1), NONE);
        Check.tellAll(x, 3, -TOP, 0, 0, 0, 0, 0, 0, 0);
        check.due("15: too small", x.cutBack(3, 1), STATE);
        check.table("15: unchanged", x, 1, "0 2 -1 1 3 5 2 4");
        x.weight(1, 0);
        check.due("15: just in range", x.cutBack(3, 1), 1);
        check.table("15: just in range", x, 1, "-999999 -999997 -999999 -999997 -999993 -999991 -999993 -999991");
        Check.tellAll(x, 3, TOP, TOP, TOP, TOP, TOP, TOP, TOP, TOP);
        check.due("15: the set itself keeps it in range", x.cutBack(3, 1), 1);
        check.due("15: greatest", x.value(1, 7), TOP);
    }

    private static void part() {
        LesseningGains x = Check.ofPoints(3);
        Check.tellAll(x, 0, 1, 5, 4, 7, 3, 6, 9, 8);
        check.due("16: restriction", x.part(0, 5, 0, 1), 1);
        check.table("16: restriction", x, 1, "1 5 1 5 3 6 3 6");
        check.due("16: kind", x.of(1, 0), 5);
        check.due("16: contraction", x.part(0, 5, 1, 2), 1);
        check.table("16: contraction", x, 2, "0 0 2 2 0 0 2 2");
        check.due("16: by the empty set", x.part(0, 0, 1, 2), 1);
        check.table("16: by the empty set", x, 2, "0 4 3 6 2 5 8 7");
        check.due("16: onto itself", x.part(0, 1, 1, 0), 1);
        check.table("16: onto itself", x, 0, "0 0 2 2 1 1 3 3");
        check.due("16: f", x.part(6, 8, 0, 0), NONE);
        check.due("16: to", x.part(3, 8, 2, 6), NONE);
        check.due("16: set 8", x.part(3, 8, 0, 1), BAD);
        check.due("16: set -1", x.part(3, -1, 0, 1), BAD);
        check.due("16: way 2", x.part(3, 0, 2, 1), BAD);
        check.due("16: way -1", x.part(0, 0, -1, 1), BAD);
        check.due("16: missing", x.part(3, 0, 0, 1), MISSING);
        Check.tellAll(x, 3, 0, 0, 0, -1, 0, 0, 0, TOP);
        check.due("16: too great", x.part(3, 3, 1, 1), STATE);
        check.due("16: restriction is in range", x.part(3, 3, 0, 4), 1);
        check.table("16: unchanged", x, 1, "1 5 1 5 3 6 3 6");
    }

    private static void held() {
        LesseningGains x = Check.ofPoints(2);
        Check.tellAll(x, 0, -5, 2, 3, 9);
        check.due("17: answer", x.held(0, 3, 1), 1);
        check.table("17: values", x, 1, "-5 2 3 3");
        check.due("17: kind", x.of(1, 0), 5);
        check.due("17: negative bound", x.held(0, -7, 1), 1);
        check.table("17: negative bound", x, 1, "-7 -7 -7 -7");
        check.due("17: lowest bound", x.held(0, -TOP, 2), 1);
        check.due("17: highest bound", x.held(0, TOP, 2), 1);
        check.table("17: highest bound", x, 2, "-5 2 3 9");
        check.due("17: onto itself", x.held(0, 0, 0), 1);
        check.table("17: onto itself", x, 0, "-5 0 0 0");
        check.due("17: f", x.held(-1, TOP + 1, 0), NONE);
        check.due("17: to", x.held(3, TOP + 1, 6), NONE);
        check.due("17: too great", x.held(3, TOP + 1, 0), BAD);
        check.due("17: too small", x.held(0, -TOP - 1, 0), BAD);
        check.due("17: missing", x.held(3, 0, 0), MISSING);
    }

    private static void clear() {
        LesseningGains x = Check.ofPoints(2);
        x.tell(0, 0, 1);
        x.cut(1);
        x.cover(2);
        x.capped(3);
        x.weighed(4);
        x.turn(4, 5);
        for (int f = 0; f < 6; f++) {
            check.due("18: kind", x.clear(f), f);
            check.due("18: twice", x.clear(f), MISSING);
            check.due("18: missing", x.value(f, 0), DEEP + MISSING);
        }
        check.due("18: function 6", x.clear(6), NONE);
        check.due("18: function -1", x.clear(-1), NONE);
    }

    private static void of() {
        LesseningGains x = Check.ofPoints(2);
        properties(x, "constant", 1, 1, 1, 1, 7, 7, 7, 7);
        properties(x, "modular with an offset", 1, 1, 0, 1, 5, 6, 8, 9);
        properties(x, "falling modular", 1, 0, 0, 1, 0, -1, 2, 1);
        properties(x, "submodular, increasing", 1, 1, 0, 0, 0, 2, 2, 3);
        properties(x, "symmetric", 1, 0, 1, 0, 0, 3, 3, 0);
        properties(x, "symmetric, not submodular", 0, 0, 1, 0, 3, 0, 0, 3);
        properties(x, "not submodular, increasing", 0, 1, 0, 0, 0, 1, 1, 3);
        check.due("19: kind", x.of(0, 0), 0);
        check.due("19: f", x.of(6, 0), NONE);
        check.due("19: f -1", x.of(-1, 0), NONE);
        check.due("19: what 5", x.of(1, 5), NONE);
        check.due("19: what -1", x.of(0, -1), NONE);
        for (int what = 0; what <= 4; what++) {
            check.due("19: missing", x.of(1, what), MISSING);
        }
        LesseningGains one = Check.ofPoints(1);
        properties(one, "one element", 1, 1, 0, 1, 0, 1);
        properties(one, "one element, falling", 1, 0, 0, 1, 1, 0);
    }

    private static void properties(LesseningGains x, String name, int submodular, int increasing, int symmetric,
            int modular, int... values) {
        x.clear(0);
        Check.tellAll(x, 0, values);
        check.due("19: submodular " + name, x.of(0, 1), submodular);
        check.due("19: increasing " + name, x.of(0, 2), increasing);
        check.due("19: symmetric " + name, x.of(0, 3), symmetric);
        check.due("19: modular " + name, x.of(0, 4), modular);
    }

    private static void taken() {
        LesseningGains x = Check.ofPoints(2);
        x.tell(0, 0, 1);
        x.cut(1);
        x.cover(2);
        x.capped(3);
        x.weighed(4);
        x.turn(4, 5);
        String[] rows = {"100000", "110000", "101000", "100100", "100110", "110001"};
        for (int f = 0; f < 6; f++) {
            for (int k = 0; k < 6; k++) {
                check.due("20: " + f + " as " + k, x.taken(f, k), rows[f].charAt(k) == '1' ? f : -15);
            }
        }
        check.due("20: kind 6", x.taken(0, 6), NONE);
        check.due("20: kind -1", x.taken(0, -1), NONE);
        check.due("20: f", x.taken(6, 0), NONE);
        x.clear(0);
        check.due("20: missing", x.taken(0, 0), MISSING);
        check.due("20: kind before missing", x.taken(0, 6), NONE);
    }

    private static void value() {
        LesseningGains x = Check.ofPoints(2);
        x.tell(0, 3, -TOP);
        check.due("21: value", x.value(0, 3), -TOP);
        check.due("21: f", x.value(6, 9), DEEP + NONE);
        check.due("21: f -1", x.value(-1, 0), DEEP + NONE);
        check.due("21: set 4", x.value(1, 4), DEEP + BAD);
        check.due("21: set -1", x.value(0, -1), DEEP + BAD);
        check.due("21: missing", x.value(1, 0), DEEP + MISSING);
    }

    private static void gain() {
        LesseningGains x = Check.ofPoints(2);
        Check.tellAll(x, 0, 1, -TOP, TOP, 4);
        check.due("22: at the empty set", x.gain(0, 0, 1), TOP - 1);
        check.due("22: great", x.gain(0, 1, 1), TOP + 4);
        check.due("22: small", x.gain(0, 2, 0), 4 - TOP);
        check.due("22: contained", x.gain(0, 1, 0), NO);
        check.due("22: element 2", x.gain(0, 0, 2), NO);
        check.due("22: element -1", x.gain(0, 0, -1), NO);
        check.due("22: set 4", x.gain(0, 4, 0), NO);
        check.due("22: set -1", x.gain(0, -1, 0), NO);
        check.due("22: f", x.gain(6, 0, 0), NO);
        check.due("22: f -1", x.gain(-1, 0, 0), NO);
        check.due("22: missing", x.gain(1, 0, 0), NO);
    }

    private static void fails() {
        LesseningGains x = Check.ofPoints(3);
        Check.tellAll(x, 0, 0, 1, 1, 2, 1, 2, 2, 4);
        failure(x, 1, 1, 2);
        Check.tellAll(x, 0, 0, 1, 1, 2, 1, 3, 2, 3);
        failure(x, 0, 0, 2);
        Check.tellAll(x, 0, 0, 1, 1, 2, 1, 2, 3, 3);
        failure(x, 0, 1, 2);
        Check.tellAll(x, 0, 0, 1, 1, 2, 1, 2, 2, 3);
        for (int what = 0; what <= 2; what++) {
            check.due("23: submodular", x.fails(0, what), NOT);
            check.due("23: missing", x.fails(1, what), MISSING);
        }
        check.due("23: what 3", x.fails(1, 3), NONE);
        check.due("23: what -1", x.fails(0, -1), NONE);
        check.due("23: f", x.fails(6, 0), NONE);
    }

    /** Tables of 64 values, which fill all the room there is. */
    private static void sixElements() {
        LesseningGains x = Check.ofPoints(6);
        for (int p = 0; p < 6; p++) {
            x.arc(p, (p + 1) % 6, 1 + p);
            x.item(p, 10, 1 << p);
            x.block(p, p);
            x.weight(p, -p);
        }
        check.due("9: six elements", x.cut(0), 6);
        check.due("10: six elements", x.cover(1), 60);
        check.due("11: six elements", x.capped(2), 6);
        check.due("12: six elements", x.weighed(3), 985);
        check.due("13: six elements", x.sum(1, 3, 4), 1);
        check.due("13: ALL", x.value(4, 63), 45);
        check.due("14: six elements", x.turn(1, 5), 1);
        check.due("14: empty set", x.value(5, 0), 60);
        check.due("15: six elements", x.cutBack(2, 5), 1);
        check.due("15: ALL", x.value(5, 63), -15);
        check.due("16: restriction", x.part(1, 32, 0, 5), 1);
        check.due("16: ALL", x.value(5, 63), 10);
        check.due("16: contraction", x.part(1, 32, 1, 5), 1);
        check.due("16: ALL", x.value(5, 63), 50);
        check.due("17: six elements", x.held(1, 55, 5), 1);
        check.due("17: ALL", x.value(5, 63), 55);
        check.due("21: beyond ALL", x.value(5, 64), DEEP + BAD);
        check.due("22: last gain", x.gain(5, 31, 5), 5);
        int[][] properties = {{1, 0, 0, 0}, {1, 1, 0, 1}, {1, 1, 0, 1}, {1, 0, 0, 1}, {1, 1, 0, 1}, {1, 1, 0, 0}};
        for (int f = 0; f < 6; f++) {
            for (int what = 1; what <= 4; what++) {
                check.due("19: function " + f + " what " + what, x.of(f, what), properties[f][what - 1]);
            }
            check.due("23: function " + f, x.fails(f, 0), NOT);
        }
        x.tell(1, 63, 61);
        failureOf(x, 1, 15, 4, 5);
    }

    private static void failureOf(LesseningGains x, int f, int set, int i, int j) {
        check.due("23: set of " + f, x.fails(f, 0), set);
        check.due("23: i of " + f, x.fails(f, 1), i);
        check.due("23: j of " + f, x.fails(f, 2), j);
    }

    private static void failure(LesseningGains x, int set, int i, int j) {
        failureOf(x, 0, set, i, j);
    }
}
