/** Promises 35 to 38: the tape and the paper. */
public final class TextsTest {
    private static final int NONE = LesseningGains.NONE;
    private static final int BAD = LesseningGains.BAD;
    private static final int STATE = LesseningGains.STATE;
    private static final int MISSING = LesseningGains.MISSING;
    private static final Check check = new Check();

    public static void main(String[] args) {
        feed();
        everyCommand();
        numbers();
        errorsOfCommands();
        syntaxErrors();
        noOldBytes();
        syntaxErrorsDoNothing();
        fullTape();
        write();
        paper();
        check.end();
    }

    private static void feed() {
        LesseningGains x = new LesseningGains();
        check.due("35: 0", x.feed(0), BAD);
        check.due("35: 128", x.feed(128), BAD);
        check.due("35: -1", x.feed(-1), BAD);
        for (int i = 1; i <= 100; i++) {
            check.due("35: byte " + i, x.feed(i % 2 == 0 ? 1 : 127), i);
        }
        check.due("35: full", x.feed(65), STATE);
        check.due("35: full and bad", x.feed(128), BAD);
        check.due("35: length", x.count(4), 100);
        check.due("36: nothing but signs", x.deeds(), -100);
        check.due("35: empty again", x.feed(65), 1);
    }

    private static void everyCommand() {
        LesseningGains x = new LesseningGains();
        check.due("36: data", Check.run(x, "arc 0 1 5;item 2 7 3;block 1 4;cap 4 0;weight 3 -8"), 5);
        check.due("36: arc", x.arc(0, 1, 5), 5);
        check.due("36: item", x.item(2, 7, 3), 7);
        check.due("36: block", x.block(1, 4), 4);
        check.due("36: cap", x.cap(4, 0), 0);
        check.due("36: weight", x.weight(3, -8), -8);
        check.due("36: functions", Check.run(x, "cut 0;cover 1;capped 2;weighed 3;sum 0 1 4;turn 4 5"), 6);
        for (int f = 0; f < 6; f++) {
            check.due("36: kind of " + f, x.of(f, 0), f < 4 ? f + 1 : 5);
        }
        check.due("36: cut", x.value(0, 1), 5);
        check.due("36: cover", x.value(1, 2), 7);
        check.due("36: capped", x.value(2, 3), 1);
        check.due("36: weighed", x.value(3, 8), -8);
        check.due("36: sum", x.value(4, 1), 12);
        check.due("36: turn", x.value(5, 14), 12);
        check.due("36: the tape is empty", x.count(4), 0);
        check.due("36: in order", Check.run(x, "weight 0 1;weighed 0;weight 0 2;weighed 1"), 4);
        check.due("36: the first", x.value(0, 1), 1);
        check.due("36: the last", x.value(1, 1), 2);
    }

    private static void numbers() {
        LesseningGains x = new LesseningGains();
        check.due("36: leading zeros", Check.run(x, "weight 000 -07"), 1);
        check.due("36: negative weight before", Check.run(x, "weight 0 -99"), 1);
        check.due("36: weight", x.weight(0, 0), -99);
        check.due("36: minus zero", Check.run(x, "arc -0 1 -00"), 1);
        check.due("36: three digits", Check.run(x, "weight 0 -999;weight 0 999;cut 005"), 1);
        check.due("36: function 5", x.of(5, 0), 1);
    }

    private static void errorsOfCommands() {
        LesseningGains x = new LesseningGains();
        x.weight(0, 7);
        check.due("36: none is good", Check.run(x, "arc 0 0 1;arc 0 1 100;item 8 1 1;block 0 6"), 0);
        check.due("36: nor these", Check.run(x, "cap 0 7;weight 0 100;weight 4 1;cut 6;cover -1"), 0);
        check.due("36: nor those", Check.run(x, "capped 6;weighed 6;sum 0 1 2;turn 0 1;turn 0 9"), 0);
        check.due("36: no effect", x.weight(0, 7), 7);
        check.due("36: some", Check.run(x, "cut 0;cut 6;cut 1;sum 0 2 3;sum 0 1 3"), 3);
        check.due("36: functions", x.count(1), 3);
        check.due("36: an answer 0 is no error", Check.run(x, "cap 0 0;cap 0 0;cut 0;cover 0;capped 0;arc 0 1 0"), 6);
    }

    private static void error(String program, int position) {
        LesseningGains x = new LesseningGains();
        check.due("36: «" + program + "»", Check.run(x, program), -100 - position);
        check.due("36: empty after «" + program + "»", x.count(4), 0);
    }

    private static void syntaxErrors() {
        error("", 0);
        error(" cut 1", 0);
        error("1", 0);
        error(";", 0);
        error("CUT 1", 0);
        error("cu", 0);
        error("cup 1", 0);
        error("cuts 1", 0);
        error("cutBack 1 1", 3);
        error("capp", 0);
        error("cappe 1", 0);
        error("cutcut", 0);
        error("cutz 1", 0);
        error("cuta 1", 0);
        error("z", 0);
        error("but 1", 0);
        error("gap 1 1", 0);
        error("ark 1 1 1", 0);
        error("cuT 1", 0);
        error("cut", 3);
        error("cut1", 3);
        error("cut;", 3);
        error("cut ", 4);
        error("cut  1", 4);
        error("cut -", 5);
        error("cut - 1", 5);
        error("cut --1", 5);
        error("cut +1", 4);
        error("cut a", 4);
        error("cut ;", 4);
        error("cut 1-", 5);
        error("cut 1234", 7);
        error("cut -1234", 8);
        error("cut 1 ", 5);
        error("cut 1 2", 5);
        error("cut 1 ;cut 2", 5);
        error("cut 1.", 5);
        error("cut 1a", 5);
        error("cut 1;", 6);
        error("cut 1;;", 6);
        error("cut 1; cut 2", 6);
        error("cut 1;1", 6);
        error("cut 1;cu", 6);
        error("cut 1;cup 2", 6);
        error("arc 0 1", 7);
        error("arc 0 1;", 7);
        error("arc 0 1 ", 8);
        error("arc 0 1 2 3", 9);
        error("arc 0 1234 2", 9);
        error("cap 1", 5);
        error("turn 1 2 3", 8);
        error("sum 1 2;cut 1", 7);
        error("cut\t1", 3);
        error("cut 1\n", 5);
        error("cut 1/", 5);
        error("cut 1:", 5);
        error("cut `", 4);
        error("`cut 1", 0);
        error("{", 0);
        error("cut{", 3);
    }

    /** What an earlier text left behind the end of the tape is not on it. */
    private static void noOldBytes() {
        LesseningGains x = new LesseningGains();
        Check.run(x, "cutcut");
        check.due("36: no old letter", Check.run(x, "cut"), -103);
        Check.run(x, "cut 123");
        check.due("36: no old digit", Check.run(x, "cut 1"), 1);
        check.due("36: function 1", x.of(1, 0), 1);
        check.due("36: no old space", Check.run(x, "arc 0"), -105);
        check.due("36: no old number", Check.run(x, "cut "), -104);
        StringBuilder letters = new StringBuilder();
        for (int i = 0; i < 100; i++) {
            letters.append('c');
        }
        check.due("36: letters alone", Check.run(x, letters.toString()), -100);
    }

    private static void syntaxErrorsDoNothing() {
        LesseningGains x = new LesseningGains();
        check.due("36: error at the end", Check.run(x, "cut 0;weight 0 5;cat"), -117);
        check.due("36: no function", x.count(1), 0);
        check.due("36: no weight", x.weight(0, 0), 0);
    }

    private static void fullTape() {
        StringBuilder program = new StringBuilder("cut 0");
        for (int i = 1; i < 16; i++) {
            program.append(";cut 0");
        }
        LesseningGains x = new LesseningGains();
        check.due("36: sixteen commands", Check.run(x, program.toString()), 16);
        check.due("36: a seventeenth word", Check.run(x, program + ";cut 0"), -200);
        check.due("36: a semicolon at the end", Check.run(x, program + ";"), -196);
        String full = program.substring(0, 89) + ";weight 0 5";
        check.due("36: a hundred bytes", Check.run(x, full), 16);
        check.due("36: the last command", x.weight(0, 0), 5);
    }

    private static void write() {
        LesseningGains x = new LesseningGains();
        x.points(2);
        Check.tellAll(x, 0, 0, -10, 999999, -999999);
        check.due("37: length", x.write(0), 20);
        check.holds("37: text", Check.paper(x).equals("0 -10 999999 -999999"));
        check.due("37: f", x.write(6), NONE);
        check.due("37: f -1", x.write(-1), NONE);
        check.due("37: missing", x.write(1), MISSING);
        check.holds("37: errors leave it", Check.paper(x).equals("0 -10 999999 -999999"));
        Check.tellAll(x, 1, 1000, 7, 10, 100001);
        check.due("37: shorter", x.write(1), 16);
        check.holds("37: in place of it", Check.paper(x).equals("1000 7 10 100001"));
        Check.tellAll(x, 2, 100000, -100000, 999, -90);
        check.due("37: powers of ten", x.write(2), 22);
        check.holds("37: powers of ten", Check.paper(x).equals("100000 -100000 999 -90"));
        x.write(1);
        x.tell(1, 0, 5);
        check.holds("37: what is written stays", Check.paper(x).equals("1000 7 10 100001"));
        x.points(6);
        for (int set = 0; set < 64; set++) {
            x.tell(0, set, -999999 + set);
        }
        check.due("37: longest", x.write(0), 511);
        check.due("37: last byte", x.paper(510), '6');
    }

    private static void paper() {
        LesseningGains x = new LesseningGains();
        check.due("38: empty", x.paper(0), NONE);
        x.points(1);
        Check.tellAll(x, 0, -3, 4);
        x.write(0);
        String text = "-3 4";
        for (int i = 0; i < text.length(); i++) {
            check.due("38: byte " + i, x.paper(i), text.charAt(i));
        }
        check.due("38: behind", x.paper(4), NONE);
        check.due("38: before", x.paper(-1), NONE);
        check.due("38: far", x.paper(Integer.MAX_VALUE), NONE);
    }
}
