import java.util.Locale;

/** The edges of promises 35 to 38: the tape, its programs and the paper. */
public final class TextsEdgesTest {
    private static final int NONE = LesseningGains.NONE;
    private static final int BAD = LesseningGains.BAD;
    private static final int STATE = LesseningGains.STATE;
    private static final int MISSING = LesseningGains.MISSING;
    private static final int TOP = 999999;
    private static final String[] WORDS = {
        "arc", "item", "block", "cap", "weight", "cut", "cover", "capped", "weighed", "sum", "turn"
    };
    private static final int[] NUMBERS = {3, 3, 2, 2, 2, 1, 1, 1, 1, 3, 2};
    /** Fifteen commands and their semicolons, 90 bytes. */
    private static final String FIFTEEN = "cut 0;".repeat(15);
    private static final Check check = new Check();

    public static void main(String[] args) {
        promise35();
        fullTape();
        promise36();
        commandsCallMethods();
        commandsAtTheirLimits();
        commandsWithErrors();
        commandsInOrder();
        numbersOfCommands();
        wordsOfCommands();
        everyByte();
        placesOfErrors();
        programsOfAHundredBytes();
        promise37();
        promise38();
        check.end();
    }

    /** A rich object with an empty tape, in which function 5 is missing. */
    private static Run untaped(int n) {
        return Run.rich(check, "36", n).does("deeds(); clear(5)");
    }

    private static void promise35() {
        Run r = Run.rich(check, "35", 6);
        r.outside("feed(#)", BAD, 1, 127).due("feed(1)", 27).due("feed(127)", 28).asks("count(4)", 28);
        Run fresh = new Run(check, "35").due("feed(127)", 1).due("feed(1)", 2).due("deeds()", -100).due("feed(59)", 1);
        fresh.asks("count(4)", 1);
    }

    private static void fullTape() {
        Run r = Run.rich(check, "35, full", 6);
        for (int length = 27; length <= 100; length++) {
            r.due("feed(32)", length);
        }
        r.leaves("feed(1)", STATE).leaves("feed(127)", STATE).leaves("feed(32)", STATE).asks("count(4)", 100);
        // A byte that does not exist is listed before a tape that is full.
        r.outside("feed(#)", BAD, 1, 127).due("deeds()", -126).due("feed(99)", 1);
        Run valid = new Run(check, "35, full and valid").feeds(FIFTEEN + "weight 0 5");
        valid.leaves("feed(59)", STATE).due("deeds()", 16).asks("count(4)", 0).due("weight(0, 0)", 5);
    }

    private static void promise36() {
        for (int n : new int[] {1, 6}) {
            untaped(n).idle("", -100).idle(";", -100).idle("cut 6", 0).idle("cut 0;", -106).idle("cut 0;cut", -109);
            untaped(n).idle("weight 0 77;cut 1;cover", -123).idle("weight 0 77;cap 0 1;xyz 0 0", -120);
            untaped(n).program("cut 0", 1).asks("count(4)", 0).due("deeds()", -100).asks("count(4)", 0);
        }
        Run again = untaped(4).program("cut 0 ", -105).asks("count(4)", 0).program("cut 0", 1).program("cut 0", 1);
        again.program("cut", -103).program("cut 6", 0);
    }

    /** Each command does what the call does. */
    private static void commandsCallMethods() {
        String[][] pairs = {
            {"arc 5 0 99", "arc(5, 0, 99)"}, {"item 7 99 63", "item(7, 99, 63)"}, {"block 5 0", "block(5, 0)"},
            {"cap 5 6", "cap(5, 6)"}, {"weight 5 -99", "weight(5, -99)"}, {"cut 5", "cut(5)"}, {"cover 5", "cover(5)"},
            {"capped 5", "capped(5)"}, {"weighed 5", "weighed(5)"}, {"sum 0 4 5", "sum(0, 4, 5)"},
            {"sum 4 0 0", "sum(4, 0, 0)"}, {"turn 0 5", "turn(0, 5)"}, {"turn 4 4", "turn(4, 4)"}
        };
        for (String[] pair : pairs) {
            untaped(6).program(pair[0], 1).sameAs(untaped(6).does(pair[1]));
        }
        untaped(6).program("cut 5;sum 5 5 5;weight 0 1", 3)
                .sameAs(untaped(6).does("cut(5); sum(5, 5, 5); weight(0, 1)"));
    }

    private static void commandsAtTheirLimits() {
        untaped(6).program("arc 0 5 0;arc 0 5 99;arc 5 0 0;arc 5 4 0", 4).asks("count(2)", 28);
        untaped(6).program("item 0 0 0;item 7 0 63;item 0 99 63;item 7 99 0", 4).asks("count(3)", 8);
        untaped(6).program("block 0 0;block 0 5;block 5 0;block 5 5", 4).program("cap 0 0;cap 0 6;cap 5 0;cap 5 6", 4);
        untaped(6).program("weight 0 99;weight 0 -99;weight 5 -99;weight 5 99;weight 5 0", 5);
        untaped(6).program("cut 0;cut 5;cover 0;cover 5;capped 0;capped 5;weighed 0;weighed 5", 8);
        untaped(6).program("sum 0 0 5;sum 5 5 0;sum 0 5 0;turn 0 5;turn 5 0;turn 5 5", 6);
        untaped(1).program("item 0 0 0;item 0 99 1;block 0 5;weight 0 -99;weight 0 99;cut 0;turn 0 0", 7);
    }

    /** Such a command has no effect and is not counted; it is no syntax error. */
    private static void commandsWithErrors() {
        Run r = untaped(6);
        r.idle("arc 0 0 1;arc 6 0 1;arc 0 6 1;arc -1 0 1;arc 0 -1 1", 0).idle("arc 0 1 100;arc 0 1 -1;arc 0 1 999", 0);
        r.idle("item 8 1 1;item -1 1 1;item 0 100 1;item 0 -1 1;item 0 1 64;item 0 1 -1;item 0 1 999", 0);
        r.idle("block 6 0;block -1 0;block 0 6;block 0 -1", 0).idle("cap 6 1;cap -1 1;cap 0 7;cap 0 -1", 0);
        r.idle("weight 6 0;weight -1 0;weight 0 100;weight 0 -100;weight 0 999;weight 0 -999", 0);
        r.idle("cut 6;cut -1;cut 999;cover 6;cover -1;capped 6;capped -1;weighed 6;weighed -1", 0);
        r.idle("sum 6 0 1;sum 0 6 1;sum 0 1 6;sum 5 0 1;sum 0 5 1;sum 5 5 5;sum -1 0 1", 0);
        r.idle("turn 6 0;turn 0 6;turn 5 0;turn 5 5;turn -1 0;turn 0 -1", 0);
        Run great = new Run(check, "36, out of range").does("tell(0, 3, 999999); tell(1, 3, 1)");
        great.idle("sum 0 1 2;sum 0 1 0;sum 0 0 1", 0).program("sum 0 1 2;sum 1 1 2;turn 0 0", 2)
                .asks("value(2, 3)", 2);
        untaped(1).idle("arc 0 0 0;arc 0 1 0;item 0 1 2;block 1 0;weight 1 0", 0);
    }

    private static void commandsInOrder() {
        Run r = new Run(check, "36, in order");
        r.program("weight 0 1;weighed 0;weight 0 2;weighed 1;sum 0 1 2;weight 9 9;weight 0 3", 6);
        r.asks("value(0, 1)", 1).asks("value(1, 1)", 2).asks("value(2, 1)", 3).due("weight(0, 0)", 3);
        // An answer 0 is no error either.
        new Run(check, "36")
                .program("cut 0;cover 1;capped 2;cap 0 0;capped 2;cap 0 0;block 0 0;item 0 0 0;arc 0 1 0", 9);
        // What an earlier command makes is there for a later one, and only for a later one.
        new Run(check, "36").program("turn 0 1;cut 0;turn 0 1", 2);
        // Previous weights below 0 are answers, not errors.
        new Run(check, "36").does("weight(0, -1); weight(1, -99)").program("weight 0 -2;weight 1 -3;weight 0 0", 3);
    }

    private static void numbersOfCommands() {
        String[][] same = {
            {"weight 0 -0", "0"}, {"weight -0 00", "0"}, {"weight -000 -000", "0"}, {"weight 000 007", "7"},
            {"weight 00 -07", "-7"}, {"weight 0 -099", "-99"}, {"weight -00 099", "99"}, {"weight 0 10", "10"}
        };
        for (String[] s : same) {
            untaped(6).program(s[0], 1).sameAs(untaped(6).does("weight(0, " + s[1] + ")"));
        }
        untaped(6).idle("weight 0 0000", -112).idle("weight 0 -0000", -113).idle("weight 0 1000", -112);
        untaped(6).idle("weight 0000 0", -110).idle("weight -0000 0", -111).idle("weight 100 0", 0).idle("cut 100", 0);
    }

    private static void wordsOfCommands() {
        for (int i = 0; i < WORDS.length; i++) {
            String word = WORDS[i];
            int end = word.length();
            Run r = untaped(6);
            r.idle(word, -100 - end).idle(word.substring(0, end - 1), -100).idle(word + "x", -100)
                    .idle("x" + word, -100);
            r.idle(word + "X", -100 - end).idle(word.toUpperCase(Locale.ROOT), -100).idle(word + word, -100);
            r.idle(word.substring(0, end - 1) + word.substring(end - 1).toUpperCase(Locale.ROOT), -100);
            r.idle("cut 6;" + word, -106 - end).idle("cut 6;" + word.substring(1), -106)
                    .idle("cut 6;" + word + "s 1", -106);
            for (int at = 0; at < end; at++) {
                String other = word.substring(0, at) + "z" + word.substring(at + 1);
                r.idle(other + " 9".repeat(NUMBERS[i]), -100);
            }
            // As many numbers as it wants, one less, one more.
            String few = word + " 9".repeat(NUMBERS[i] - 1);
            String right = few + " 9";
            r.idle(right, 0).idle(few, -100 - few.length()).idle(few + " ", -101 - few.length());
            r.idle(few + ";cut 6", -100 - few.length()).idle(few + " ;cut 6", -101 - few.length());
            r.idle(right + " 9", -100 - right.length()).idle(right + " ", -100 - right.length());
            r.idle(right + ";" + right, 0).idle(right + ";", -101 - right.length());
        }
    }

    /** For each byte behind a beginning: whether it is a digit, what else may stand there, and what the error is. */
    private static void everyByte() {
        for (int b = 1; b <= 127; b++) {
            char sign = (char) b;
            boolean letter = sign >= 'a' && sign <= 'z';
            answer("", sign, -100);
            answer("ca", sign, sign == 'p' ? -103 : -100);
            answer("cut", sign, letter ? -100 : sign == ' ' ? -104 : -103);
            answer("cut ", sign, isDigit(sign) ? goodTo(sign, '5') : sign == '-' ? -105 : -104);
            answer("cut -", sign, isDigit(sign) ? goodTo(sign, '0') : -105);
            answer("cut 0", sign, isDigit(sign) ? goodTo(sign, '5') : sign == ';' ? -106 : -105);
            answer("cut 00", sign, isDigit(sign) ? goodTo(sign, '5') : sign == ';' ? -107 : -106);
            answer("cut 000", sign, sign == ';' ? -108 : -107);
            answer("cut -00", sign, isDigit(sign) ? goodTo(sign, '0') : sign == ';' ? -108 : -107);
            answer("cut -000", sign, sign == ';' ? -109 : -108);
            answer("cut 0;", sign, -106);
            answer("cap 0", sign, isDigit(sign) || sign == ' ' ? -106 : -105);
            answer("cap 0 ", sign, isDigit(sign) ? goodTo(sign, '6') : sign == '-' ? -107 : -106);
            answer("cap 0 0", sign, isDigit(sign) ? goodTo(sign, '6') : sign == ';' ? -108 : -107);
        }
    }

    private static boolean isDigit(char sign) {
        return sign >= '0' && sign <= '9';
    }

    private static int goodTo(char digit, char last) {
        return digit <= last ? 1 : 0;
    }

    private static void answer(String begun, char sign, int answer) {
        Run r = new Run(check, "36, byte " + (int) sign).program(begun + sign, answer);
        r.asks("count(4)", 0).asks("count(1)", answer > 0 && begun.startsWith("cut") ? 1 : 0);
    }

    private static void placesOfErrors() {
        Run r = untaped(6);
        r.idle(" cut 0", -100).idle("0", -100).idle("-", -100).idle("cut  0", -104).idle("cut 0  ", -105);
        r.idle("cut 0 ;cut 0", -105).idle("cut 0; cut 0", -106).idle("cut 0;;cut 0", -106).idle(";cut 0", -100);
        r.idle("cut 0;cut 0 ", -111).idle("cut 0,cut 0", -105).idle("cut --0", -105).idle("cut 0-", -105);
        r.idle("cut - 0", -105).idle("cut +0", -104).idle("cut -;cut 0", -105).idle("cut0", -103).idle("cut\n0", -103);
        r.idle("cutBack 0 1", -103).idle("tell 0 1 2", -100).idle("part 0 0 0 1", -100).idle("held 0 1 1", -100);
        r.idle("clear 0", -100).idle("points 4", -100).idle("write 0", -100).idle("deeds", -100).idle("lay 0 0", -100);
        r.idle("cut 0;abc def", -106).idle("abc;cut 0", -100).idle("cut 0;c", -106).idle("cut 0;cutc 0", -106);
        r.idle("cutx", -100).idle("cutx;", -100).idle("arc 0 1 2;ark 0 1 2", -110).idle("arc 0 1x2", -107);
        r.idle("arc 0 1;2", -107).idle("arc 0  1 2", -106).idle("arc 0 1 2 3;cut 0", -109).idle("arc -0 -1 -", -111);
    }

    /** Programs that fill the tape, and errors in its last byte and behind it. */
    private static void programsOfAHundredBytes() {
        hundred(FIFTEEN + "weight 0 5", 16);
        hundred(FIFTEEN + "weight 0 x", -199);
        hundred(FIFTEEN + "weight 0 -", -200);
        hundred(FIFTEEN + "turn 0 -1;", -200);
        hundred(FIFTEEN + "cut -1;cut", -200);
        hundred(FIFTEEN + "cut -1;cup", -197);
        hundred(FIFTEEN + "cut 1;turn", -200);
        hundred(FIFTEEN + "cut 1;sum ", -200);
        hundred(FIFTEEN + "cut 1;cut1", -199);
        hundred(FIFTEEN + "cut 1;cuts", -196);
        hundred(FIFTEEN + "cut 000 00", -197);
        hundred(FIFTEEN + "cap 01 003", 16);
        hundred(FIFTEEN + "cap 01 3 4", -198);
        hundred(" ".repeat(100), -100);
        hundred("a".repeat(100), -100);
        hundred("capped " + "0".repeat(93), -110);
        hundred(";".repeat(100), -100);
        hundred("cut " + "-".repeat(96), -105);
        // One byte less ends too early at its own length.
        new Run(check, "36, 99 bytes").program(FIFTEEN + "weight 0 ", -199).program(FIFTEEN + "weight 0;", -198);
    }

    private static void hundred(String text, int answer) {
        check.due("36: length of \"" + text + "\"", text.length(), 100);
        if (answer < 0) {
            new Run(check, "36, full tape").does("cover(0)").idle(text, answer);
        }
        new Run(check, "36, full tape").program(text, answer).asks("count(4)", 0);
    }

    private static void promise37() {
        for (int n : new int[] {1, 6}) {
            Run r = Run.rich(check, "37", n).outside("write(#)", NONE, 0, 5).leaves("write(5)", MISSING);
            r.leaves("write(6)", NONE);
        }
        Run one = new Run(check, "37, one element").does("points(1)").tells(0, 0, 0).due("write(0)", 3).onPaper("0 0");
        one.tells(0, -TOP, TOP).due("write(0)", 14).onPaper("-999999 999999").leaves("paper(14)", NONE);
        one.tells(5, -1, 9).due("write(5)", 4).onPaper("-1 9").leaves("paper(4)", NONE).leaves("write(1)", MISSING);
        one.does("clear(5)").leaves("write(5)", MISSING).onPaper("-1 9").does("points(6)").onPaper("-1 9");
        for (int digits = 1, v = 9; digits <= 6; digits++, v = 10 * v + 9) {
            int lowest = (v + 1) / 10;
            Run r = new Run(check, "37, digits").does("points(2)").tells(0, v, -v, lowest, -lowest);
            r.due("write(0)", 4 * digits + 5).onPaper(v + " -" + v + " " + lowest + " -" + lowest);
        }
        Run zero = new Run(check, "37, six elements").does("points(6); cut(0)").due("write(0)", 127);
        zero.asks("paper(0)", '0').asks("paper(1)", ' ').asks("paper(126)", '0').leaves("paper(127)", NONE);
        Run longest = new Run(check, "37, longest").does("points(6)").tells(0, s -> -TOP + s).due("write(0)", 511);
        StringBuilder text = new StringBuilder("-999999");
        for (int set = 1; set < 64; set++) {
            text.append(' ').append(-TOP + set);
        }
        for (int i = 0; i < 400; i++) {
            longest.asks(Run.text("paper", i), text.charAt(i));
        }
        Run behind = new Run(check, "37, longest").does("points(6)").tells(0, s -> -TOP + s).does("write(0)");
        for (int i = 400; i < 511; i++) {
            behind.asks(Run.text("paper", i), text.charAt(i));
        }
        behind.leaves("paper(511)", NONE).does("cut(1)").due("write(1)", 127).leaves("paper(127)", NONE);
        behind.leaves("paper(510)", NONE).asks("count(5)", 127);
    }

    private static void promise38() {
        Run fresh = new Run(check, "38, empty").leaves("paper(0)", NONE).leaves("paper(-1)", NONE);
        fresh.leaves("paper(2147483647)", NONE).leaves("paper(-2147483648)", NONE).asks("count(5)", 0);
        Run one = Run.rich(check, "38", 1).onPaper("-3 8").leaves("paper(0)", '-').leaves("paper(3)", '8');
        one.outside("paper(#)", NONE, 0, 3);
        Run six = new Run(check, "38, six elements").does("points(6)").tells(0, s -> -TOP).does("write(0)");
        six.leaves("paper(0)", '-').leaves("paper(510)", '9').outside("paper(#)", NONE, 0, 510);
    }
}
