/** Promises 1 to 7: a new object, the elements and the data. */
public final class DataTest {
    private static final int NONE = LesseningGains.NONE;
    private static final int BAD = LesseningGains.BAD;
    private static final int MISSING = LesseningGains.MISSING;
    private static final int DEEP = -1000000;
    private static final Check check = new Check();

    public static void main(String[] args) {
        newObject();
        points();
        pointsMakesAllAsAtFirst();
        pointsLeavesTheRest();
        arc();
        item();
        block();
        cap();
        weight();
        errorsLeaveTheData();
        check.end();
    }

    private static void newObject() {
        LesseningGains x = new LesseningGains();
        check.due("1: count(0)", x.count(0), 4);
        for (int what = 1; what <= 5; what++) {
            check.due("1: count " + what, x.count(what), 0);
        }
        for (int f = 0; f < 6; f++) {
            check.due("1: of " + f, x.of(f, 0), MISSING);
        }
        for (int list = 0; list < 4; list++) {
            check.due("1: put in " + list, x.put(list, 0, 0), MISSING);
        }
        check.due("1: back", x.back(), LesseningGains.STATE);
        check.due("1: paper", x.paper(0), NONE);
        new LesseningGains().points(6);
        check.due("1: objects are apart", x.count(0), 4);
    }

    private static void points() {
        LesseningGains x = new LesseningGains();
        check.due("2: 6", x.points(6), 4);
        check.due("2: 1", x.points(1), 6);
        check.due("2: same", x.points(1), 1);
        for (int n : new int[] {0, -1, 7, Integer.MIN_VALUE, Integer.MAX_VALUE}) {
            check.due("2: " + n, x.points(n), BAD);
        }
        check.due("2: count", x.count(0), 1);
        check.due("2: the only element", x.weight(0, 5), 0);
        check.due("2: no second element", x.weight(1, 5), DEEP + NONE);
    }

    private static void pointsMakesAllAsAtFirst() {
        for (int n = 3; n <= 5; n++) {
            LesseningGains x = new LesseningGains();
            setEverything(x);
            check.due("2: from 4 to " + n, x.points(n), 4);
            for (int i = 0; i < 3; i++) {
                check.due("2: load", x.arc(i, (i + 1) % 3, 0), 0);
                check.due("2: block", x.block(i, 0), 0);
                check.due("2: weight", x.weight(i, 0), 0);
            }
            for (int b = 0; b < 6; b++) {
                check.due("2: cap", x.cap(b, 1), 1);
            }
            for (int i = 0; i < 8; i++) {
                check.due("2: worth", x.item(i, 0, 0), 0);
            }
            for (int f = 0; f < 6; f++) {
                check.due("2: function", x.of(f, 0), MISSING);
                check.due("2: no old value", x.tell(f, 1, 0), 0);
                check.due("2: no old value beside", x.value(f, 3), 0);
            }
        }
    }

    private static void setEverything(LesseningGains x) {
        for (int i = 0; i < 3; i++) {
            x.arc(i, (i + 1) % 3, 10 + i);
            x.block(i, 1 + i);
            x.weight(i, -5 - i);
        }
        for (int b = 0; b < 6; b++) {
            x.cap(b, 3);
        }
        for (int i = 0; i < 8; i++) {
            x.item(i, 9, 3);
        }
        for (int f = 0; f < 6; f++) {
            x.tell(f, 1, 77);
            x.tell(f, 3, 78);
        }
    }

    private static void pointsLeavesTheRest() {
        LesseningGains x = new LesseningGains();
        x.list(2, 3);
        x.put(2, 1, 42);
        x.tell(0, 1, 5);
        x.write(0);
        x.image();
        x.feed('c');
        x.points(4);
        check.due("2: list", x.get(2, 1), 42);
        check.due("2: tape", x.count(4), 1);
        check.due("2: paper", x.count(5), 31);
        check.due("2: byte of the paper", x.paper(2), '5');
        x.points(5);
        check.due("2: image", x.back(), 1);
        check.due("2: value of the image", x.value(0, 1), 5);
    }

    private static void arc() {
        LesseningGains x = new LesseningGains();
        check.due("3: first", x.arc(0, 1, 99), 0);
        check.due("3: again", x.arc(0, 1, 0), 99);
        check.due("3: direction", x.arc(1, 0, 7), 0);
        check.due("3: the other direction", x.arc(0, 1, 1), 0);
        check.due("3: same", x.arc(2, 2, 1), NONE);
        check.due("3: same and too much", x.arc(2, 2, 100), NONE);
        check.due("3: i", x.arc(4, 0, 1), NONE);
        check.due("3: -1", x.arc(-1, 0, 1), NONE);
        check.due("3: j", x.arc(0, 4, 1), NONE);
        check.due("3: j -1", x.arc(0, -1, -1), NONE);
        check.due("3: 100", x.arc(0, 1, 100), BAD);
        check.due("3: v -1", x.arc(0, 1, -1), BAD);
        x.points(6);
        for (int i = 0; i < 6; i++) {
            for (int j = 0; j < 6; j++) {
                check.due("3: set", x.arc(i, j, 10 * i + j), i == j ? NONE : 0);
            }
        }
        for (int i = 0; i < 6; i++) {
            for (int j = 0; j < 6; j++) {
                check.due("3: every arc has its own load", x.arc(i, j, 0), i == j ? NONE : 10 * i + j);
            }
        }
    }

    private static void item() {
        LesseningGains x = new LesseningGains();
        check.due("4: first", x.item(7, 99, 15), 0);
        check.due("4: again", x.item(7, 4, 0), 99);
        check.due("4: item 8", x.item(8, 1, 1), NONE);
        check.due("4: item -1", x.item(-1, 100, 99), NONE);
        check.due("4: 100", x.item(7, 100, 1), BAD);
        check.due("4: v -1", x.item(7, -1, 1), BAD);
        check.due("4: set 16", x.item(7, 1, 16), BAD);
        check.due("4: set -1", x.item(7, 1, -1), BAD);
        check.due("4: worth stays", x.item(7, 4, 1), 4);
        x.cover(0);
        check.due("4: set is kept", x.value(0, 1), 4);
        check.due("4: set is kept alone", x.value(0, 14), 0);
        x.points(6);
        check.due("4: ALL of six", x.item(0, 1, 63), 0);
        check.due("4: beyond ALL of six", x.item(0, 1, 64), BAD);
    }

    private static void block() {
        LesseningGains x = new LesseningGains();
        check.due("5: first", x.block(3, 5), 0);
        check.due("5: again", x.block(3, 2), 5);
        check.due("5: element 4", x.block(4, 0), NONE);
        check.due("5: element -1", x.block(-1, 0), NONE);
        check.due("5: block 6", x.block(0, 6), NONE);
        check.due("5: block -1", x.block(0, -1), NONE);
        check.due("5: stays", x.block(3, 0), 2);
    }

    private static void cap() {
        LesseningGains x = new LesseningGains();
        check.due("6: first", x.cap(5, 6), 1);
        check.due("6: again", x.cap(5, 0), 6);
        check.due("6: block 6", x.cap(6, 9), NONE);
        check.due("6: block -1", x.cap(-1, 1), NONE);
        check.due("6: 7", x.cap(5, 7), BAD);
        check.due("6: v -1", x.cap(5, -1), BAD);
        check.due("6: stays", x.cap(5, 1), 0);
    }

    private static void weight() {
        LesseningGains x = new LesseningGains();
        check.due("7: first", x.weight(3, -99), 0);
        check.due("7: again", x.weight(3, 99), -99);
        check.due("7: element 4", x.weight(4, 100), DEEP + NONE);
        check.due("7: element -1", x.weight(-1, 0), DEEP + NONE);
        check.due("7: 100", x.weight(3, 100), DEEP + BAD);
        check.due("7: -100", x.weight(3, -100), DEEP + BAD);
        check.due("7: stays", x.weight(3, 0), 99);
    }

    private static void errorsLeaveTheData() {
        LesseningGains x = new LesseningGains();
        setEverything(x);
        x.item(0, 9, 16);
        x.item(0, 100, 4);
        x.arc(0, 1, 100);
        x.block(0, 6);
        x.cap(0, 7);
        x.weight(0, 100);
        x.points(7);
        check.due("3: load", x.arc(0, 1, 0), 10);
        x.cover(0);
        check.due("4: set", x.value(0, 4), 0);
        check.due("5: block", x.block(0, 0), 1);
        check.due("6: cap", x.cap(0, 0), 3);
        check.due("7: weight", x.weight(0, 0), -5);
    }
}
