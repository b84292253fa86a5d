/** Compares answers with those that are due and counts the wrong ones. */
final class Check {
    static final long NO = Long.MIN_VALUE;

    private int asked;
    private int wrong;

    void due(String call, long got, long want) {
        asked++;
        if (got != want) {
            wrong++;
            System.out.println(call + " answered " + got + ", due is " + want);
        }
    }

    void holds(String what, boolean truth) {
        due(what, truth ? 1 : 0, 1);
    }

    int wrong() {
        return wrong;
    }

    /** Ends the program with exit code 1 if an answer was wrong. */
    void end() {
        System.out.println(asked + " answers, " + wrong + " wrong");
        if (wrong != 0) {
            System.exit(1);
        }
    }

    static LesseningGains ofPoints(int n) {
        LesseningGains x = new LesseningGains();
        x.points(n);
        return x;
    }

    static void feed(LesseningGains x, String text) {
        for (int i = 0; i < text.length(); i++) {
            x.feed(text.charAt(i));
        }
    }

    static int run(LesseningGains x, String program) {
        feed(x, program);
        return x.deeds();
    }

    static String paper(LesseningGains x) {
        StringBuilder text = new StringBuilder();
        for (int i = 0; x.paper(i) != LesseningGains.NONE; i++) {
            text.append((char) x.paper(i));
        }
        return text.toString();
    }

    /** The values of a function as write puts them, for tests that compare a whole table. */
    static String table(LesseningGains x, int f) {
        StringBuilder text = new StringBuilder();
        for (int set = 0; set < 1 << x.count(0); set++) {
            text.append(set == 0 ? "" : " ").append(x.value(f, set));
        }
        return text.toString();
    }

    void table(String what, LesseningGains x, int f, String want) {
        String got = table(x, f);
        asked++;
        if (!got.equals(want)) {
            wrong++;
            System.out.println(what + " has the values " + got + ", due are " + want);
        }
    }

    /** Tells a function all its values. */
    static void tellAll(LesseningGains x, int f, int... values) {
        for (int set = 0; set < values.length; set++) {
            x.tell(f, set, values[set]);
        }
    }
}
