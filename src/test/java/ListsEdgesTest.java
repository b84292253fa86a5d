/** The edges of promises 39 to 46: lists, the image and the counts. */
public final class ListsEdgesTest {
    private static final int NONE = LesseningGains.NONE;
    private static final int BAD = LesseningGains.BAD;
    private static final int STATE = LesseningGains.STATE;
    private static final int NOT = LesseningGains.NOT;
    private static final int MISSING = LesseningGains.MISSING;
    private static final int NO_INDEX = -13;
    private static final int NEGATIVE_LENGTH = -14;
    private static final int DEEP = -1000000;
    private static final long NO = LesseningGains.NO;
    private static final int LEAST = Integer.MIN_VALUE;
    private static final int GREATEST = Integer.MAX_VALUE;
    private static final int TOP = 999999;
    private static final Check check = new Check();

    public static void main(String[] args) {
        promise39();
        promise40();
        promise41();
        promise42();
        layAtTheLimits();
        layErrors();
        promise43();
        judgeErrors();
        promise44();
        promise45();
        backRestoresAll();
        backLeavesListsAndTexts();
        promise46();
        check.end();
    }

    private static void promise39() {
        for (int list = 0; list < 4; list++) {
            Run r = new Run(check, "39").leaves(Run.text("put", list, 0, 0), MISSING).due(Run.text("list", list, 0), 1);
            r.leaves(Run.text("put", list, 0, 0), NO_INDEX).leaves(Run.text("get", list, 0), NO);
            r.due(Run.text("list", list, 1), 1).leaves(Run.text("get", list, 0), 0)
                    .leaves(Run.text("get", list, 1), NO);
            r.due(Run.text("list", list, 64), 1).leaves(Run.text("get", list, 63), 0)
                    .leaves(Run.text("get", list, 64), NO);
            for (int other = 0; other < 4; other++) {
                r.asks(Run.text("get", other, 0), other == list ? 0 : NO);
            }
        }
        Run r = Run.rich(check, "39", 6).outside("list(#, 1)", NONE, 0, 3);
        for (int list = 0; list < 4; list++) {
            r.leaves(Run.text("list", list, 65), BAD).leaves(Run.text("list", list, GREATEST), BAD);
            r.leaves(Run.text("list", list, 128), BAD).leaves(Run.text("list", list, 320), BAD);
            r.leaves(Run.text("list", list, -1), NEGATIVE_LENGTH)
                    .leaves(Run.text("list", list, LEAST), NEGATIVE_LENGTH);
            r.leaves(Run.text("list", list, -192), NEGATIVE_LENGTH);
        }
        r.leaves("list(4, 65)", NONE).leaves("list(4, -1)", NONE).leaves("list(-1, 65)", NONE)
                .leaves("list(-1, -1)", NONE);
        // Made anew, all its numbers are 0, be it shorter, as long or longer.
        r.due("list(2, 64)", 1).asks("get(2, 0)", 0).asks("get(2, 63)", 0);
        r.does("put(2, 0, 5); put(2, 40, 6)").due("list(2, 1)", 1).asks("get(2, 0)", 0).asks("get(2, 1)", NO);
        r.due("list(2, 41)", 1).asks("get(2, 40)", 0).asks("get(2, 41)", NO).due("list(0, 2)", 1).asks("get(0, 0)", 0);
    }

    private static void promise40() {
        Run r = Run.rich(check, "40", 6).outside("put(#, 0, 5)", NONE, 0, 3);
        r.outside("put(0, #, 5)", NO_INDEX, 0, 1).outside("put(2, #, 5)", NO_INDEX, 0, 63);
        r.leaves("put(1, 0, 0)", NO_INDEX).leaves("put(1, -1, 0)", NO_INDEX).leaves("put(1, 63, 0)", NO_INDEX);
        r.leaves("put(3, 0, 0)", MISSING).leaves("put(3, -1, 0)", MISSING).leaves("put(3, 64, 0)", MISSING);
        r.leaves("put(4, -1, 0)", NONE).leaves("put(4, 64, 0)", NONE).leaves("put(-1, 64, 0)", NONE);
        for (int v : new int[] {LEAST, GREATEST, 0, -1, 1000000, -1000000}) {
            r.due(Run.text("put", 2, 63, v), 1).asks("get(2, 63)", v).asks("get(2, 62)", 0);
            r.due(Run.text("put", 0, 0, v), 1).asks("get(0, 0)", v).asks("get(0, 1)", 4);
        }
        r.does("list(3, 1)").due("put(3, 0, 8)", 1).leaves("put(3, 1, 8)", NO_INDEX).asks("get(3, 0)", 8);
    }

    private static void promise41() {
        Run r = Run.rich(check, "41", 6).leaves("get(0, 0)", -3).leaves("get(0, 1)", 4);
        r.leaves("get(2, 0)", 1000000).leaves("get(2, 63)", -7).leaves("get(2, 1)", 0);
        r.outside("get(#, 0)", NO, 0, 3).outside("get(0, #)", NO, 0, 1).outside("get(2, #)", NO, 0, 63);
        r.leaves("get(1, 0)", NO).leaves("get(1, -1)", NO).leaves("get(3, 0)", NO).leaves("get(3, -1)", NO);
        r.leaves("get(4, -1)", NO).does("put(2, 0, -2147483648)").leaves("get(2, 0)", LEAST);
        r.does("put(2, 0, 2147483647)").leaves("get(2, 0)", GREATEST);
    }

    private static void promise42() {
        Run one = Run.rich(check, "42", 1).due("lay(0, 0)", 2).has(0, -3, 4).due("lay(5, 0)", 2).has(5, -3, 4);
        one.does("list(0, 1); put(0, 0, -9)").due("lay(5, 0)", 1).has(5, -9, 0).due("lay(5, 1)", 0).has(5, 0, 0);
        one.asks("of(5, 0)", 0);
        Run six = Run.rich(check, "42", 6).does("put(2, 0, 11)").due("lay(5, 2)", 64);
        six.has(5, s -> s == 0 ? 11 : s == 63 ? -7 : 0).asks("of(5, 0)", 0);
        // A short list makes all the others 0.
        Run brief = Run.rich(check, "42, short", 6).tells(0, s -> -TOP + s).due("lay(0, 0)", 2);
        brief.has(0, s -> s == 0 ? -3 : s == 1 ? 4 : 0).asks("of(0, 0)", 0);
        Run empty = Run.rich(check, "42, empty", 6).tells(0, s -> TOP - s).due("lay(0, 1)", 0).has(0, s -> 0);
        empty.due("lay(4, 1)", 0).asks("of(4, 0)", 0).asks("value(4, 63)", 0).due("lay(5, 1)", 0).asks("of(5, 0)", 0);
        // The list stays, and later numbers do not change the function.
        empty.due("lay(1, 0)", 2).asks("get(0, 0)", -3).does("put(0, 0, 70)").asks("value(1, 0)", -3)
                .asks("of(1, 0)", 0);
        Run before = Run.rich(check, "42", 6).does("clear(4); tell(4, 0, -3); tell(4, 1, 4)");
        Run.rich(check, "42", 6).does("lay(4, 0)").sameAs(before);
    }

    private static void layAtTheLimits() {
        for (int n = 1; n <= 6; n++) {
            int sets = 1 << n;
            Run r = Run.rich(check, "42", n).does(Run.text("list", 0, sets)).due("lay(0, 0)", sets);
            r.does(Run.text("put", 0, sets - 1, TOP)).due("lay(0, 0)", sets).asks(Run.text("value", 0, sets - 1), TOP);
            r.does(Run.text("put", 0, sets - 1, -TOP)).due("lay(0, 0)", sets)
                    .asks(Run.text("value", 0, sets - 1), -TOP);
            for (int v : new int[] {TOP + 1, -TOP - 1, LEAST, GREATEST, LEAST + 1}) {
                r.does(Run.text("put", 0, sets - 1, v)).leaves("lay(0, 0)", STATE).leaves("lay(5, 0)", STATE);
                r.does(Run.text("put", 0, sets - 1, 0)).does(Run.text("put", 0, 0, v)).leaves("lay(1, 0)", STATE);
                r.does("put(0, 0, 0)").due("lay(0, 0)", sets);
            }
            if (n < 6) {
                r.does(Run.text("list", 0, sets + 1)).leaves("lay(0, 0)", STATE).leaves("lay(5, 0)", STATE);
                r.does("list(0, 64)").leaves("lay(1, 0)", STATE);
            }
        }
    }

    private static void layErrors() {
        for (int n : new int[] {1, 6}) {
            Run r = Run.rich(check, "42", n).outside("lay(#, 0)", NONE, 0, 5).outside("lay(0, #)", NONE, 0, 3);
            r.leaves("lay(0, 3)", MISSING).leaves("lay(5, 3)", MISSING).leaves("lay(6, 3)", NONE)
                    .leaves("lay(6, 4)", NONE);
            r.leaves("lay(6, 2)", NONE).leaves("lay(0, 2)", STATE).leaves("lay(5, 2)", STATE);
        }
    }

    private static void promise43() {
        Run one = Run.rich(check, "43", 1).leaves("judge(0, 0)", 1).does("tell(0, 1, 4)").leaves("judge(0, 0)", NOT);
        one.does("tell(0, 0, 4)").leaves("judge(0, 0)", 0).leaves("judge(1, 0)", NOT);
        // All that there is a set for is equal; for index 2 there is none.
        one.does("list(0, 3); cover(0); clear(0); tell(0, 0, 0)").leaves("judge(0, 0)", 2);
        one.does("list(0, 64)").leaves("judge(0, 0)", 2).does("put(0, 1, 1)").leaves("judge(0, 0)", 1);
        one.does("list(0, 2)").leaves("judge(0, 0)", NOT).does("list(0, 1)").leaves("judge(0, 0)", NOT);
        Run six = Run.rich(check, "43", 6).does("clear(0); tell(0, 0, -3); tell(0, 1, 4)").leaves("judge(0, 0)", NOT);
        six.leaves("judge(2, 0)", 0).leaves("judge(1, 0)", NOT).does("put(2, 0, -3); put(2, 1, 4)")
                .leaves("judge(2, 0)", 63);
        six.does("tell(0, 63, -7)").leaves("judge(2, 0)", NOT).does("put(2, 62, 1)").leaves("judge(2, 0)", 62);
        six.does("tell(0, 40, 1)").leaves("judge(2, 0)", 40);
        Run five = new Run(check, "43, five elements").does("points(5); cut(0); list(3, 33)").leaves("judge(3, 0)", 32);
        five.does("list(3, 32)").leaves("judge(3, 0)", NOT).does("put(3, 31, 1)").leaves("judge(3, 0)", 31);
        // Numbers that no value can be.
        Run r = new Run(check, "43").does("tell(0, 0, -999999); list(0, 1); put(0, 0, -999999)")
                .leaves("judge(0, 0)", NOT);
        for (int v : new int[] {LEAST, GREATEST, -TOP - 1, TOP + 1, TOP}) {
            r.does(Run.text("put", 0, 0, v)).leaves("judge(0, 0)", 0);
        }
    }

    private static void judgeErrors() {
        for (int n : new int[] {1, 6}) {
            Run r = Run.rich(check, "43", n).outside("judge(#, 0)", NONE, 0, 3).outside("judge(0, #)", NONE, 0, 5);
            r.leaves("judge(3, 0)", MISSING).leaves("judge(0, 5)", MISSING).leaves("judge(3, 5)", MISSING);
            r.leaves("judge(1, 5)", MISSING).leaves("judge(4, 5)", NONE).leaves("judge(3, 6)", NONE);
            r.leaves("judge(-1, 6)", NONE).leaves("judge(3, -1)", NONE);
        }
    }

    private static void promise44() {
        Run r = new Run(check, "44").due("image()", 0);
        for (int f = 0; f < 6; f++) {
            r.does(Run.text("tell", f, 0, 1)).due("image()", f + 1);
        }
        r.does("clear(0)").due("image()", 5).due("back()", 5).due("back()", 5);
        for (int n : new int[] {1, 6}) {
            // The image is the present state, and the one before is gone.
            Run.rich(check, "44", n).due("image()", 5).sameAs(Run.rich(check, "44", n).does("image(); back()"));
            Run.rich(check, "44", n).does("image(); points(3); image(); points(4)").due("back()", 0)
                    .asks("count(0)", 3);
        }
    }

    private static void promise45() {
        new Run(check, "45, no image").leaves("back()", STATE);
        Run none = new Run(check, "45, no image").does("points(6); tell(0, 1, 5); weight(0, 5); list(0, 1); write(0)");
        none.feeds("cut 0").leaves("back()", STATE).leaves("back()", STATE).due("image()", 1).due("back()", 1);
        Run r = Run.rich(check, "45", 6).due("back()", 4).asks("count(0)", 6).asks("of(4, 0)", MISSING);
        r.asks("value(0, 63)", 8).due("points(1)", 6).due("back()", 4).asks("count(0)", 6).asks("value(0, 63)", 8);
        r.due("back()", 4).asks("value(5, 0)", DEEP + MISSING).due("tell(5, 1, 0)", 0).asks("value(5, 0)", 0);
        Run empty = new Run(check, "45, empty image").does("points(1); image(); points(6); cut(0)").due("back()", 0);
        empty.asks("count(0)", 1).asks("count(1)", 0).leaves("value(0, 0)", DEEP + MISSING);
    }

    /** Whatever is changed after an image is as it was when it has been restored. */
    private static void backRestoresAll() {
        String[] changes = {
            "points(1)", "points(5)", "points(6)", "arc(5, 4, 0)", "arc(0, 1, 99)", "item(7, 99, 63)",
            "item(0, 31, 63)", "item(7, 27, 0)", "block(5, 3)", "cap(5, 0)", "cap(0, 6)", "weight(5, 99)",
            "tell(0, 63, -1)", "tell(5, 0, 1)", "cut(0)", "cover(5)", "capped(1)", "weighed(4)", "sum(0, 4, 4)",
            "turn(0, 0)", "cutBack(0, 5)", "part(0, 63, 1, 0)", "held(0, -999999, 0)", "clear(0)", "lay(0, 0)",
            "clear(4); tell(4, 63, 5)"
        };
        Run saved = Run.rich(check, "45", 6).does("image()");
        for (String change : changes) {
            Run.rich(check, "45, " + change, 6).does("image()").does(change).due("back()", 5).sameAs(saved);
        }
        Run all = Run.rich(check, "45, all", 6).does("image(); points(1); tell(0, 1, 5); points(4); cap(0, 3)");
        all.due("back()", 5).due("back()", 5).sameAs(saved);
        // The image itself is no part of what changes.
        Run.rich(check, "45, twice", 6).does("image(); back(); tell(0, 63, -1); weight(0, 1); back()").sameAs(saved);
    }

    private static void backLeavesListsAndTexts() {
        String[] changes = {
            "list(3, 64)", "list(0, 0)", "put(0, 0, 99)", "put(2, 63, 99)", "write(1)", "write(4)", "feed(59)"
        };
        for (String change : changes) {
            Run there = Run.rich(check, "45, " + change, 6).does("image()").does(change);
            Run.rich(check, "45, " + change, 6).does("image()").does(change).due("back()", 5).sameAs(there);
        }
        Run.rich(check, "45, tape", 6).does("image(); deeds()").due("back()", 5).asks("count(4)", 0)
                .due("deeds()", -100);
    }

    private static void promise46() {
        Run fresh = new Run(check, "46").outside("count(#)", BAD, 0, 5).leaves("count(0)", 4);
        for (int what = 1; what <= 5; what++) {
            fresh.leaves(Run.text("count", what), 0);
        }
        int[][] due = {{1, 5, 0, 8, 26, 4}, {6, 5, 30, 8, 26, 128}};
        for (int[] counts : due) {
            Run r = Run.rich(check, "46", counts[0]).outside("count(#)", BAD, 0, 5);
            for (int what = 0; what <= 5; what++) {
                r.leaves(Run.text("count", what), counts[what]);
            }
        }
        Run full = Run.rich(check, "46, full", 6).does("clear(0); turn(4, 5); turn(4, 0)").leaves("count(1)", 6);
        full.tells(0, s -> -TOP).does("write(0)").leaves("count(5)", 511).feeds(";".repeat(74)).leaves("count(4)", 100);
        full.asks("feed(59)", STATE).leaves("count(4)", 100);
        Run r = new Run(check, "46").does("arc(0, 1, 99); arc(1, 0, 1); item(0, 1, 0); item(7, 0, 15)")
                .asks("count(2)", 2);
        // Arcs and items count by load and worth, not by whether they have been set.
        r.asks("count(3)", 1).does("arc(0, 1, 0); arc(2, 3, 0); item(0, 0, 15)").asks("count(2)", 1)
                .asks("count(3)", 0);
        r.does("tell(0, 0, 0)").asks("count(1)", 1).does("clear(0)").asks("count(1)", 0).does("points(1)")
                .asks("count(0)", 1);
        r.asks("count(2)", 0);
    }
}
