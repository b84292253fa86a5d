/** Promises 27 to 31: minimisers and the principal sequence. */
public final class MinimisersTest {
    private static final int NONE = LesseningGains.NONE;
    private static final int NOT = LesseningGains.NOT;
    private static final int MISSING = LesseningGains.MISSING;
    private static final long NO = LesseningGains.NO;
    private static final Check check = new Check();

    public static void main(String[] args) {
        least();
        leastSets();
        ring();
        sequence();
        ties();
        sequenceErrors();
        heightBeforeLevel();
        sixElements();
        check.end();
    }

    private static void least() {
        LesseningGains x = Check.ofPoints(2);
        Check.tellAll(x, 0, 4, 3, 9, 2);
        check.due("27: last", x.least(0), 2);
        Check.tellAll(x, 0, -4, 3, 9, 2);
        check.due("27: first", x.least(0), -4);
        Check.tellAll(x, 0, 4, 3, -999999, 2);
        check.due("27: lowest", x.least(0), -999999);
        Check.tellAll(x, 0, 4, 1, 9, 2);
        check.due("27: second", x.least(0), 1);
        check.due("27: f", x.least(6), NO);
        check.due("27: f -1", x.least(-1), NO);
        check.due("27: missing", x.least(1), NO);
    }

    private static void leastSets() {
        LesseningGains x = Check.ofPoints(3);
        Check.tellAll(x, 0, 1, 0, 1, 0, 1, 0, 1, 0);
        numbers(x, 4, 1, 7, 1);
        Check.tellAll(x, 0, 1, 0, 1, 0, 1, 0, 1, 1);
        numbers(x, 3, 1, 7, 0);
        Check.tellAll(x, 0, 1, 1, 1, 0, 1, 0, 1, 0);
        numbers(x, 3, 1, 7, 0);
        Check.tellAll(x, 0, 1, 1, 1, 1, 1, 0, 1, 1);
        numbers(x, 1, 5, 5, 1);
        Check.tellAll(x, 0, 1, 1, 0, 1, 0, 1, 1, 1);
        numbers(x, 2, 0, 6, 0);
        Check.tellAll(x, 0, 0, 0, 0, 0, 0, 0, 0, 0);
        numbers(x, 8, 0, 7, 1);
        check.due("28: f", x.leastSets(-1, 0), NONE);
        check.due("28: what 4", x.leastSets(1, 4), NONE);
        check.due("28: what -1", x.leastSets(0, -1), NONE);
        for (int what = 0; what <= 3; what++) {
            check.due("28: missing", x.leastSets(1, what), MISSING);
        }
    }

    private static void numbers(LesseningGains x, int number, int common, int together, int closed) {
        check.due("28: how many", x.leastSets(0, 0), number);
        check.due("28: intersection", x.leastSets(0, 1), common);
        check.due("28: union", x.leastSets(0, 2), together);
        check.due("28: closed", x.leastSets(0, 3), closed);
    }

    private static void ring() {
        LesseningGains x = Check.ofPoints(3);
        Check.tellAll(x, 0, 1, 1, 0, 0, 1, 1, 1, 1);
        check.due("29: element 0", x.ring(0, 0), 3);
        check.due("29: element 1", x.ring(0, 1), 2);
        check.due("29: element 2", x.ring(0, 2), NOT);
        check.due("29: element 3", x.ring(1, 3), NONE);
        check.due("29: element -1", x.ring(0, -1), NONE);
        check.due("29: f", x.ring(6, 0), NONE);
        check.due("29: missing", x.ring(1, 0), MISSING);
    }

    private static void sequence() {
        LesseningGains x = Check.ofPoints(4);
        for (int p = 0; p < 4; p++) {
            x.weight(p, new int[] {3, -2, 3, 8}[p]);
        }
        x.weighed(0);
        check.due("30: number", x.level(0, -1), 3);
        member(x, 0, 2, -2, 1);
        member(x, 1, 7, 3, 1);
        member(x, 2, 15, 8, 1);
        check.due("30: behind the last", x.level(0, 3), NOT);
        check.due("31: behind the last", x.height(0, 3, 0), NO);

        x.cap(0, 2);
        x.capped(0);
        check.due("30: one member", x.level(0, -1), 1);
        member(x, 0, 15, 1, 2);

        x.clear(0);
        Check.tellAll(x, 0, 9, 9, 9, 9, 9, 9, 9, 9, 9, 9, 9, 9, 9, 9, 9, 9);
        member(x, 0, 15, 0, 1);
        x.tell(0, 15, 3);
        member(x, 0, 15, -3, 2);
        x.tell(0, 0, 0);
        member(x, 0, 15, 3, 4);
    }

    /** Of equal quotients the most elements, then the lowest int. */
    private static void ties() {
        LesseningGains x = Check.ofPoints(3);
        Check.tellAll(x, 0, 0, 1, 1, 3, 1, 2, 2, 9);
        check.due("30: number", x.level(0, -1), 2);
        member(x, 0, 5, 1, 1);
        member(x, 1, 7, 7, 1);
        Check.tellAll(x, 0, 0, 2, 2, 9, 1, 9, 9, 10);
        member(x, 0, 4, 1, 1);
        member(x, 1, 7, 9, 2);
        Check.tellAll(x, 0, 0, 2, 1, 9, 1, 9, 3, 30);
        member(x, 0, 2, 1, 1);
        member(x, 1, 6, 2, 1);
        member(x, 2, 7, 27, 1);
        Check.tellAll(x, 0, 999999, 999999, 999999, 999999, 999999, 999999, 0, -999999);
        member(x, 0, 7, -666666, 1);
        LesseningGains six = Check.ofPoints(6);
        for (int set = 1; set < 64; set++) {
            six.tell(0, set, Integer.bitCount(set) * Integer.bitCount(set));
        }
        check.due("30: six members", six.level(0, -1), 6);
        for (int i = 0; i < 6; i++) {
            member(six, i, (2 << i) - 1, 2 * i + 1, 1);
        }
        check.due("30: no seventh", six.level(0, 6), NOT);
    }

    private static void heightBeforeLevel() {
        LesseningGains x = Check.ofPoints(2);
        x.weight(0, 5);
        x.weight(1, 8);
        x.weighed(0);
        check.due("31: asked first", x.height(0, 1, 0), 8);
        x.weight(0, 9);
        x.weighed(1);
        check.due("31: of another function", x.height(1, 0, 0), 8);
        check.due("31: of the first again", x.height(0, 0, 0), 5);
    }

    private static void sixElements() {
        LesseningGains x = Check.ofPoints(6);
        for (int set = 0; set < 64; set++) {
            x.tell(0, set, set == 63 ? -7 : 3);
        }
        check.due("27: six elements", x.least(0), -7);
        check.due("28: how many", x.leastSets(0, 0), 1);
        check.due("28: intersection", x.leastSets(0, 1), 63);
        check.due("28: closed", x.leastSets(0, 3), 1);
        check.due("29: six elements", x.ring(0, 5), 63);
        member(x, 0, 63, -5, 3);
    }

    private static void member(LesseningGains x, int i, int set, int numerator, int denominator) {
        check.due("30: member " + i, x.level(0, i), set);
        check.due("31: numerator " + i, x.height(0, i, 0), numerator);
        check.due("31: denominator " + i, x.height(0, i, 1), denominator);
    }

    private static void sequenceErrors() {
        LesseningGains x = Check.ofPoints(2);
        x.weighed(0);
        check.due("30: i -2", x.level(1, -2), NONE);
        check.due("30: f", x.level(6, 0), NONE);
        check.due("30: missing", x.level(1, 0), MISSING);
        check.due("30: number of a missing one", x.level(1, -1), MISSING);
        check.due("30: far", x.level(0, Integer.MAX_VALUE), NOT);
        check.due("31: i -1", x.height(0, -1, 0), NO);
        check.due("31: part 2", x.height(0, 0, 2), NO);
        check.due("31: part -1", x.height(0, 0, -1), NO);
        check.due("31: f", x.height(-1, 0, 0), NO);
        check.due("31: missing", x.height(1, 0, 0), NO);
        check.due("31: far", x.height(0, Integer.MAX_VALUE, 0), NO);
    }
}
