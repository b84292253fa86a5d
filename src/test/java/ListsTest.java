/** Promises 39 to 46: lists, the image and the counts. */
public final class ListsTest {
    private static final int NONE = LesseningGains.NONE;
    private static final int BAD = LesseningGains.BAD;
    private static final int STATE = LesseningGains.STATE;
    private static final int NOT = LesseningGains.NOT;
    private static final int MISSING = LesseningGains.MISSING;
    private static final long NO = LesseningGains.NO;
    private static final Check check = new Check();

    public static void main(String[] args) {
        list();
        putAndGet();
        lay();
        judge();
        image();
        imageIsApart();
        count();
        check.end();
    }

    private static void list() {
        LesseningGains x = new LesseningGains();
        check.due("39: list", x.list(3, 64), 1);
        check.due("39: last number", x.get(3, 63), 0);
        check.due("39: no more", x.get(3, 64), NO);
        check.due("39: list 4", x.list(4, 65), NONE);
        check.due("39: list -1", x.list(-1, -1), NONE);
        check.due("39: 65", x.list(0, 65), BAD);
        check.due("39: -1", x.list(0, -1), -14);
        check.due("39: lowest", x.list(0, Integer.MIN_VALUE), -14);
        check.due("39: still missing", x.put(0, 0, 1), MISSING);
        x.put(3, 5, 9);
        check.due("39: error", x.list(3, 65), BAD);
        check.due("39: unchanged", x.get(3, 5), 9);
        check.due("39: anew", x.list(3, 6), 1);
        check.due("39: numbers are 0", x.get(3, 5), 0);
        check.due("39: empty", x.list(3, 0), 1);
        check.due("39: empty is not missing", x.put(3, 0, 1), -13);
    }

    private static void putAndGet() {
        LesseningGains x = new LesseningGains();
        x.list(0, 3);
        x.list(1, 3);
        check.due("40: put", x.put(0, 2, Integer.MIN_VALUE), 1);
        check.due("40: put", x.put(0, 0, Integer.MAX_VALUE), 1);
        check.due("41: get", x.get(0, 2), Integer.MIN_VALUE);
        check.due("41: get", x.get(0, 0), Integer.MAX_VALUE);
        check.due("41: between", x.get(0, 1), 0);
        check.due("41: of another list", x.get(1, 0), 0);
        check.due("40: list 4", x.put(4, 9, 1), NONE);
        check.due("40: list -1", x.put(-1, 0, 1), NONE);
        check.due("40: missing", x.put(2, 9, 1), MISSING);
        check.due("40: index 3", x.put(0, 3, 1), -13);
        check.due("40: index -1", x.put(0, -1, 1), -13);
        check.due("41: list 4", x.get(4, 0), NO);
        check.due("41: list -1", x.get(-1, 0), NO);
        check.due("41: missing", x.get(2, 0), NO);
        check.due("41: missing, index -1", x.get(2, -1), NO);
        check.due("41: index 3", x.get(0, 3), NO);
        check.due("41: index -1", x.get(0, -1), NO);
    }

    private static void lay() {
        LesseningGains x = new LesseningGains();
        x.points(2);
        x.weight(0, 9);
        x.weighed(0);
        x.list(1, 2);
        x.put(1, 0, 999999);
        x.put(1, 1, -999999);
        check.due("42: short list", x.lay(0, 1), 2);
        check.table("42: short list", x, 0, "999999 -999999 0 0");
        check.due("42: kind", x.of(0, 0), 0);
        x.list(2, 0);
        check.due("42: empty list", x.lay(5, 2), 0);
        check.table("42: empty list", x, 5, "0 0 0 0");
        check.due("42: f", x.lay(6, 0), NONE);
        check.due("42: list", x.lay(0, 4), NONE);
        check.due("42: list -1", x.lay(0, -1), NONE);
        check.due("42: missing", x.lay(0, 0), MISSING);
        x.list(0, 5);
        check.due("42: too long", x.lay(1, 0), STATE);
        check.due("42: stays missing", x.of(1, 0), MISSING);
        x.put(1, 1, -1000000);
        check.due("42: too small", x.lay(0, 1), STATE);
        x.put(1, 1, 1000000);
        check.due("42: too great", x.lay(0, 1), STATE);
        check.table("42: unchanged", x, 0, "999999 -999999 0 0");
        x.list(1, 4);
        x.put(1, 3, 6);
        check.due("42: as long as there are sets", x.lay(0, 1), 4);
        check.table("42: whole", x, 0, "0 0 0 6");
        x.put(1, 3, 7);
        check.due("42: the function is apart", x.value(0, 3), 6);
        x.points(6);
        x.list(1, 64);
        x.put(1, 63, -5);
        check.due("42: longest", x.lay(0, 1), 64);
        check.due("42: last value", x.value(0, 63), -5);
        check.due("43: longest", x.judge(1, 0), NOT);
        x.tell(0, 63, 1);
        check.due("43: last value", x.judge(1, 0), 63);
    }

    private static void judge() {
        LesseningGains x = new LesseningGains();
        x.points(1);
        Check.tellAll(x, 0, 4, 5);
        x.list(0, 3);
        check.due("43: first", x.judge(0, 0), 0);
        x.put(0, 0, 4);
        check.due("43: second", x.judge(0, 0), 1);
        x.put(0, 1, 5);
        check.due("43: no set", x.judge(0, 0), 2);
        x.list(0, 2);
        x.put(0, 0, 4);
        x.put(0, 1, 5);
        check.due("43: equal", x.judge(0, 0), NOT);
        x.list(1, 1);
        x.put(1, 0, 4);
        check.due("43: short and equal", x.judge(1, 0), NOT);
        x.list(2, 0);
        check.due("43: empty", x.judge(2, 0), NOT);
        check.due("43: list 4", x.judge(4, 1), NONE);
        check.due("43: list -1", x.judge(-1, 0), NONE);
        check.due("43: f", x.judge(3, 6), NONE);
        check.due("43: f -1", x.judge(3, -1), NONE);
        check.due("43: list missing", x.judge(3, 0), MISSING);
        check.due("43: f missing", x.judge(0, 1), MISSING);
    }

    private static void image() {
        LesseningGains x = new LesseningGains();
        check.due("45: no image", x.back(), STATE);
        check.due("44: nothing yet", x.image(), 0);
        x.points(3);
        x.arc(0, 2, 5);
        x.item(6, 7, 4);
        x.block(2, 3);
        x.cap(3, 4);
        x.weight(1, -6);
        x.cut(0);
        x.tell(5, 7, 70);
        check.due("44: in place of an earlier one", x.image(), 2);
        for (int time = 0; time < 2; time++) {
            x.points(4 + time);
            x.tell(1, 15, 3);
            check.due("45: back", x.back(), 2);
            check.due("45: elements", x.count(0), 3);
            check.due("45: functions", x.count(1), 2);
            check.due("45: kind", x.of(0, 0), 1);
            check.table("45: cut", x, 0, "0 5 0 5 0 0 0 0");
            check.table("45: told", x, 5, "0 0 0 0 0 0 0 70");
            check.due("45: a missing one has no values", x.tell(1, 0, 0), 0);
            check.table("45: a missing one has no values", x, 1, "0 0 0 0 0 0 0 0");
            check.due("45: load", x.arc(0, 2, 1), 5);
            x.cover(2);
            check.table("45: items", x, 2, "0 0 0 0 7 7 7 7");
            check.due("45: worth", x.item(6, 1, 1), 7);
            check.due("45: block", x.block(2, 0), 3);
            check.due("45: cap", x.cap(3, 1), 4);
            check.due("45: weight", x.weight(1, 0), -6);
        }
    }

    /** Lists, the tape and the paper are in no image. */
    private static void imageIsApart() {
        LesseningGains x = new LesseningGains();
        x.tell(0, 0, 1);
        x.list(0, 1);
        x.image();
        x.put(0, 0, 8);
        x.list(1, 2);
        x.feed('a');
        x.write(0);
        x.back();
        check.due("45: list", x.get(0, 0), 8);
        check.due("45: new list", x.get(1, 1), 0);
        check.due("45: tape", x.count(4), 1);
        check.due("45: paper", x.count(5), 31);
        x.tell(0, 0, 2);
        check.due("45: what came later is gone", x.back(), 1);
        check.due("45: old value", x.value(0, 0), 1);
    }

    private static void count() {
        LesseningGains x = new LesseningGains();
        x.arc(0, 1, 1);
        x.arc(1, 0, 2);
        x.arc(3, 2, 3);
        x.arc(1, 0, 0);
        x.item(0, 1, 0);
        x.item(7, 5, 3);
        x.item(3, 0, 3);
        x.tell(0, 0, 0);
        x.cut(5);
        x.clear(0);
        x.cover(1);
        x.cover(2);
        x.feed('x');
        x.write(5);
        int[] due = {4, 3, 2, 2, 1, 31};
        for (int what = 0; what < 6; what++) {
            check.due("46: count " + what, x.count(what), due[what]);
        }
        check.due("46: 6", x.count(6), BAD);
        check.due("46: -1", x.count(-1), BAD);
        x.deeds();
        check.due("46: tape is empty", x.count(4), 0);
    }
}
