/** The sentences of the document's description on which every promise rests, in their order. */
public final class DescriptionTest {
    private static final int NONE = LesseningGains.NONE;
    private static final int BAD = LesseningGains.BAD;
    private static final int STATE = LesseningGains.STATE;
    private static final int NOT = LesseningGains.NOT;
    private static final int MISSING = LesseningGains.MISSING;
    private static final int DEEP = -1000000;
    private static final long NO = LesseningGains.NO;
    private static final int TOP = 999999;
    private static final Check check = new Check();

    public static void main(String[] args) {
        theLastCall();
        objectsAreApart();
        elements();
        loads();
        items();
        blocksAndCaps();
        weights();
        functionsAreMissingAtFirst();
        valuesAreComputedWhenSet();
        kinds();
        cutFunctions();
        coverageFunctions();
        cappedFunctions();
        submodular();
        increasing();
        symmetric();
        modular();
        ordersAndBaseVectors();
        negativePart();
        weightsAsBase();
        tightSets();
        minimisers();
        principalSequence();
        minimumCuts();
        choices();
        tapeAndWords();
        lists();
        sameNumberOfElements();
        sumWithItself();
        shortLists();
        errors();
        severalErrors();
        refusedCommandsAndSyntaxErrors();
        fractions();
        constants();
        check.end();
    }

    private static Run run(String head, int n) {
        return new Run(check, "description, " + head).does("points(" + n + ")");
    }

    /** All 512 calls of an object are answered as promised. */
    private static void theLastCall() {
        Run r = new Run(check, "description, 512 calls");
        for (int call = 1; call < 512; call++) {
            r.due(Run.text("tell", call % 6, call % 16, call), call <= 48 ? 0 : call - 48);
        }
        r.due("value(1, 15)", 511);
    }

    private static void objectsAreApart() {
        Run a = Run.rich(check, "description, one object", 4);
        Run b = Run.rich(check, "description, another object", 6).does("image(); list(3, 5); list(2, 0); cut(0); write(1)");
        a.asks("count(0)", 4).asks("value(0, 15)", 9).asks("put(3, 0, 0)", MISSING).asks("get(2, 63)", -7);
        a.asks("count(4)", 26).asks("paper(0)", '-').due("back()", 4).asks("value(0, 15)", 8);
        b.asks("count(0)", 6).asks("of(0, 0)", 1).due("back()", 5).asks("count(0)", 6).asks("value(0, 63)", 9);
    }

    private static void elements() {
        new Run(check, "description, 4 at first").leaves("count(0)", 4).due("weight(3, 1)", 0)
                .due("weight(4, 1)", DEEP + NONE);
        for (int n = 1; n <= 6; n++) {
            int all = (1 << n) - 1;
            Run r = run("a set is an int of n bits", n).does(Run.text("tell", 0, all, 5));
            r.leaves(Run.text("value", 0, all), 5).leaves(Run.text("value", 0, all + 1), DEEP + BAD);
            for (int p = 0; p < n; p++) {
                r.does(Run.text("weight", p, p + 1)).does("weighed(1)").asks(Run.text("value", 1, 1 << p), p + 1);
            }
        }
    }

    private static void loads() {
        Run r = run("loads", 6);
        for (int i = 0; i < 6; i++) {
            for (int j = 0; j < 6; j++) {
                r.due(Run.text("arc", i, j, 10 * i + j), i == j ? NONE : 0);
            }
        }
        r.asks("count(2)", 30);
        for (int i = 0; i < 6; i++) {
            for (int j = 0; j < 6; j++) {
                r.due(Run.text("arc", i, j, 0), i == j ? NONE : 10 * i + j);
            }
        }
        r.asks("count(2)", 0);
    }

    private static void items() {
        Run r = run("items", 6);
        for (int item = 0; item < 8; item++) {
            r.due(Run.text("item", item, 99 - item, item * 9), 0);
        }
        for (int item = 0; item < 8; item++) {
            r.due(Run.text("item", item, 0, 63), 99 - item);
        }
        r.leaves("item(8, 1, 1)", NONE);
        // The set is put in place of the earlier one.
        r.does("item(3, 5, 1); item(3, 5, 2); cover(0)").has(0, 0, 0, 5, 5, 0, 0, 5, 5);
    }

    private static void blocksAndCaps() {
        Run r = run("blocks", 6).due("capped(0)", 1).does("block(0, 5); block(1, 5)").due("capped(0)", 2);
        r.does("cap(5, 6)").due("capped(0)", 3).does("cap(0, 0)").due("capped(0)", 2).does("cap(5, 0)")
                .due("capped(0)", 0);
        r.does("cap(5, 2); block(1, 0)").due("capped(0)", 1).asks("value(0, 2)", 0).asks("value(0, 1)", 1);
        r.does("cap(1, 6)").due("capped(0)", 1);
    }

    private static void weights() {
        Run r = run("weights", 6);
        for (int p = 0; p < 6; p++) {
            r.due(Run.text("weight", p, 20 * p - 99), 0);
        }
        for (int p = 0; p < 6; p++) {
            r.due(Run.text("weight", p, 99), 20 * p - 99);
        }
    }

    private static void functionsAreMissingAtFirst() {
        Run r = new Run(check, "description, missing at first");
        for (int f = 0; f < 6; f++) {
            r.leaves(Run.text("value", f, 0), DEEP + MISSING).leaves(Run.text("clear", f), MISSING);
            r.leaves(Run.text("write", f), MISSING).leaves(Run.text("least", f), NO)
                    .leaves(Run.text("turn", f, 0), MISSING);
        }
        for (int f = 0; f < 6; f++) {
            r.due(Run.text("tell", f, 15, -TOP + f), 0);
        }
        for (int f = 0; f < 6; f++) {
            r.leaves(Run.text("value", f, 15), -TOP + f);
        }
        r.leaves("value(6, 0)", DEEP + NONE);
    }

    /** Each way to set a function: neither the data nor the functions it was made of change it later. */
    private static void valuesAreComputedWhenSet() {
        staysAsSetBy("cut(5)", 0, 6, 0, 0, 7, 6, 7, 0);
        staysAsSetBy("cover(5)", 0, 9, 0, 9, 9, 9, 9, 9);
        staysAsSetBy("capped(5)", 0, 1, 1, 2, 1, 1, 2, 2);
        staysAsSetBy("weighed(5)", 0, -4, 0, -4, 9, 5, 9, 5);
        staysAsSetBy("sum(0, 4, 5)", 5, 4, 7, 5, 5, 11, 19, 5);
        staysAsSetBy("turn(0, 5)", 0, 10, 6, -4, 9, 7, 8, 5);
        staysAsSetBy("cutBack(0, 5)", 5, 1, 5, 1, -4, -8, -4, -8);
        staysAsSetBy("part(0, 5, 0, 5)", 5, 8, 5, 8, -4, 6, -4, 6);
        staysAsSetBy("part(0, 2, 1, 5)", 0, 2, 0, 2, 3, -7, 3, -7);
        staysAsSetBy("held(0, 8, 5)", 5, 8, 7, 8, -4, 6, 8, 0);
        staysAsSetBy("lay(5, 0)", 0, 3, 0, 0, 0, 0, 0, 0);
    }

    private static void staysAsSetBy(String call, int... values) {
        Run r = run("kept, " + call, 3).does("arc(0, 1, 6); arc(2, 0, 7); item(0, 9, 5); block(1, 3); weight(0, -4)");
        r.does("weight(2, 9); weighed(4); list(0, 2); put(0, 1, 3)").tells(0, 5, 8, 7, 9, -4, 6, 10, 0);
        r.does(call).has(5, values);
        r.does("arc(0, 1, 1); arc(2, 0, 1); item(0, 1, 2); block(1, 0); cap(0, 0); weight(0, 1); weight(2, 1)");
        r.does("clear(4); list(0, 3)").tells(0, 1, 1, 1, 1, 1, 1, 1, 1).has(5, values);
    }

    private static void kinds() {
        String[] made = {
            "sum(0, 0, 5)", "turn(0, 5)", "cutBack(0, 5)", "part(0, 1, 0, 5)", "part(0, 1, 1, 5)", "held(0, 1, 5)"
        };
        for (String call : made) {
            run("kinds", 2).does("tell(0, 0, 1)").does(call).leaves("of(5, 0)", 5).leaves("taken(5, 1)", 5)
                    .leaves("taken(5, 0)", 5).leaves("taken(5, 3)", -15);
            run("kinds", 2).does("tell(0, 0, 1)").does(call.replace("5)", "0)")).leaves("of(0, 0)", 5);
        }
        Run r = run("kinds", 2).does("tell(0, 0, 1); list(0, 0); weighed(1)").leaves("of(0, 0)", 0)
                .leaves("of(1, 0)", 4);
        r.does("lay(1, 0)").leaves("of(1, 0)", 0).leaves("taken(1, 3)", -15);
        r.does("capped(1)").leaves("of(1, 0)", 3).leaves("taken(1, 4)", -15).does("cover(1)").leaves("of(1, 0)", 2);
        r.does("cut(1)").leaves("of(1, 0)", 1).leaves("taken(1, 5)", -15).does("tell(1, 0, 0)").leaves("of(1, 0)", 0);
    }

    private static void cutFunctions() {
        // Only what leaves the set counts, not what enters it or stays in it.
        Run r = run("cut", 3)
                .does("arc(0, 1, 1); arc(0, 2, 2); arc(1, 0, 4); arc(1, 2, 8); arc(2, 0, 16); arc(2, 1, 32)");
        r.due("cut(0)", 20).has(0, 0, 3, 12, 10, 48, 33, 20, 0);
    }

    private static void coverageFunctions() {
        // An item counts once, however many of its elements are there.
        Run r = run("coverage", 3).does("item(0, 7, 7); item(1, 2, 1); item(2, 50, 0); item(3, 0, 7); item(4, 1, 6)");
        r.due("cover(0)", 10).has(0, 0, 9, 8, 10, 8, 10, 8, 10);
    }

    private static void cappedFunctions() {
        Run r = run("capped", 6)
                .does("block(3, 1); block(4, 1); block(5, 2); cap(0, 2); cap(1, 6); cap(2, 0); cap(3, 5)");
        r.due("capped(0)", 4);
        r.has(0, s -> Math.min(2, Integer.bitCount(s & 7)) + Integer.bitCount(s & 24));
    }

    private static void submodular() {
        // Not less: equal gains are enough, and one less breaks it.
        run("submodular", 2).tells(0, 1, 4, 5, 8).leaves("of(0, 1)", 1).does("tell(0, 3, 9)").leaves("of(0, 1)", 0);
        run("submodular", 2).tells(0, 1, 4, 5, 7).leaves("of(0, 1)", 1).does("tell(0, 0, 3)").leaves("of(0, 1)", 0);
        for (int set = 0; set < 16; set++) {
            Run r = run("submodular at each set", 4).tells(0, 0, 0, 0, 0, 0, 0, 0, 0, 0, 0, 0, 0, 0, 0, 0, 0);
            r.does(Run.text("tell", 0, set, 1)).leaves("of(0, 1)", 0).does(Run.text("tell", 0, set, -1));
            r.leaves("of(0, 1)", set == 0 || set == 15 ? 1 : 0);
        }
    }

    private static void increasing() {
        Run r = run("increasing", 4).does("cut(0)").leaves("of(0, 2)", 1);
        for (int set = 0; set < 16; set++) {
            r.does(Run.text("tell", 0, set, -1)).leaves("of(0, 2)", set == 0 ? 1 : 0);
            r.does(Run.text("tell", 0, set, 1)).leaves("of(0, 2)", set == 15 ? 1 : 0).does(Run.text("tell", 0, set, 0));
        }
    }

    private static void symmetric() {
        Run r = run("symmetric", 4).does("cut(0)").leaves("of(0, 3)", 1);
        for (int set = 0; set < 16; set++) {
            r.does(Run.text("tell", 0, set, 1)).leaves("of(0, 3)", 0).does(Run.text("tell", 0, 15 - set, 1));
            r.leaves("of(0, 3)", 1).does(Run.text("tell", 0, 15 - set, 0)).does(Run.text("tell", 0, set, 0));
        }
    }

    private static void modular() {
        Run r = run("modular", 4).does("weight(0, 3); weight(1, -5); weight(2, 99); weight(3, -99); weighed(1)");
        // A value for the empty set does not matter, if all others have it too.
        r.does("list(0, 16)");
        for (int i = 0; i < 16; i++) {
            r.does(Run.text("put", 0, i, 1000));
        }
        r.does("lay(0, 0); sum(0, 1, 0)").leaves("of(0, 4)", 1).leaves("value(0, 0)", 1000);
        for (int set = 0; set < 16; set++) {
            r.does("sum(0, 1, 2)").does(Run.text("tell", 2, set, 0)).leaves("of(2, 4)", 0);
        }
    }

    private static void ordersAndBaseVectors() {
        Run r = run("orders", 3).tells(0, 0, 1, 10, 100, 1000, 10000, 100000, TOP);
        String[] orders = {"012", "021", "102", "120", "201", "210"};
        int[][] vectors = {
            {1, 99, 999899}, {1, 989999, 9999}, {90, 10, 999899},
            {899999, 10, 99990}, {9000, 989999, 1000}, {899999, 99000, 1000}
        };
        for (int order = 0; order < orders.length; order++) {
            for (int p = 0; p < 3; p++) {
                r.leaves(Run.text("base", 0, order, p), vectors[order][p]);
            }
        }
        r.leaves("base(0, 6, 0)", NO);
        int count = 1;
        for (int n = 1; n <= 6; n++) {
            count *= n;
            Run edge = run("as many orders as n!", n).does("weight(0, -7); weighed(0)");
            edge.leaves(Run.text("base", 0, count - 1, 0), -7).leaves(Run.text("base", 0, count, 0), NO);
            edge.leaves(Run.text("negative", 0, count - 1), -7).leaves(Run.text("negative", 0, count), NO);
        }
    }

    private static void negativePart() {
        Run r = run("negative part", 3).tells(0, 0, -1, 4, 2, 0, -3, 4, -9);
        int[] parts = {-12, -9, -13, -13, -9, -13};
        for (int order = 0; order < 6; order++) {
            r.leaves(Run.text("negative", 0, order), parts[order]);
        }
    }

    private static void weightsAsBase() {
        Run r = run("base", 2).does("weight(0, 2); weight(1, -3)").tells(0, 7, 9, 9, 6).leaves("based(0, 0)", 1);
        r.does("tell(0, 1, 8)").leaves("based(0, 0)", 0).does("tell(0, 1, 10)").leaves("based(0, 0)", 1);
        r.does("tell(0, 3, 7)").leaves("based(0, 0)", 0).does("tell(0, 3, 5)").leaves("based(0, 0)", 0);
        r.does("tell(0, 3, 6); tell(0, 2, 3)").leaves("based(0, 0)", 0).does("tell(0, 2, 4)").leaves("based(0, 0)", 1);
        // The weights of now, not those of the time when the function was set.
        run("base", 2).does("weight(0, 2); weighed(0)").leaves("based(0, 0)", 1).does("weight(0, 1)")
                .leaves("based(0, 0)", 0);
    }

    private static void tightSets() {
        for (int value : new int[] {-TOP, 0, TOP}) {
            Run r = run("the empty set is tight always", 2).does("weight(0, 1); weight(1, 1)");
            r.does(Run.text("tell", 0, 0, value)).leaves("based(0, 1)", 1).leaves("based(0, 2)", 3)
                    .leaves("based(0, 3)", 0);
        }
        Run r = run("tight", 2).does("weight(0, 1); weight(1, 1)").tells(0, 0, 1, 0, 5);
        r.leaves("based(0, 1)", 2).leaves("based(0, 2)", 1).leaves("based(0, 3)", 1).does("tell(0, 2, 1)");
        r.leaves("based(0, 1)", 3).leaves("based(0, 2)", 0).leaves("based(0, 3)", 3).leaves("based(0, 0)", 0);
    }

    private static void minimisers() {
        for (int set = 0; set < 16; set++) {
            Run r = run("minimiser", 4).does("cut(0)").does(Run.text("tell", 0, set, -1)).leaves("least(0)", -1);
            r.leaves("leastSets(0, 0)", 1).leaves("leastSets(0, 1)", set).leaves("leastSets(0, 2)", set);
            for (int p = 0; p < 4; p++) {
                r.leaves(Run.text("ring", 0, p), (set >> p & 1) == 1 ? set : NOT);
            }
        }
    }

    private static void principalSequence() {
        // Smallest quotient, then most elements, then the lowest as an int.
        Run r = run("sequence", 4).tells(0, 0, 9, 9, 9, 9, 2, 2, 9, 9, 9, 9, 9, 9, 9, 9, 9);
        r.leaves("level(0, -1)", 2).leaves("level(0, 0)", 5).leaves("height(0, 0, 0)", 1).leaves("height(0, 0, 1)", 1);
        r.leaves("level(0, 1)", 15).leaves("height(0, 1, 0)", 7).leaves("height(0, 1, 1)", 2);
        r.does("tell(0, 15, 4)").leaves("level(0, 0)", 15).leaves("level(0, -1)", 1);
        r.does("tell(0, 15, 5)").leaves("level(0, 0)", 5).leaves("height(0, 1, 0)", 3).leaves("height(0, 1, 1)", 2);
        r.does("tell(0, 2, 0); tell(0, 0, 1)").leaves("level(0, 0)", 2).leaves("height(0, 0, 0)", -1);
        r.leaves("level(0, 1)", 15).leaves("height(0, 1, 0)", 5).leaves("height(0, 1, 1)", 3);
    }

    private static void minimumCuts() {
        // Least value, then fewest elements, then the lowest as an int.
        Run r = run("cuts", 4).does("cut(0)").leaves("wall(0, 3, 0)", 8).does("tell(0, 8, 1)")
                .leaves("wall(0, 3, 0)", 10);
        r.does("tell(0, 10, 1)").leaves("wall(0, 3, 0)", 12).does("tell(0, 12, 1)").leaves("wall(0, 3, 0)", 14);
        r.does("tell(0, 14, 1)").leaves("wall(0, 3, 0)", 8).leaves("wallValue(0, 3, 0)", 1);
        r.does("tell(0, 14, -1)").leaves("wall(0, 3, 0)", 14).leaves("wallValue(0, 3, 0)", -1);
    }

    private static void choices() {
        Run r = run("choices", 3).tells(0, 5, 7, 8, 9, 8, 12, 11, 1);
        r.leaves("most(0, 1, 0)", 2).leaves("most(0, 2, 0)", 6).leaves("most(0, 3, 0)", 7);
        r.leaves("most(0, 1, 1)", 2).leaves("most(0, 2, 1)", 5).leaves("most(0, 3, 1)", 7).leaves("most(0, 0, 1)", 0);
        r.does("tell(0, 3, 11)").leaves("most(0, 2, 0)", 3).does("tell(0, 6, 12)").leaves("most(0, 2, 1)", 5);
    }

    private static void tapeAndWords() {
        Run r = Run.rich(check, "description, tape", 4).does("deeds(); clear(5)");
        // A program has one command or more.
        r.idle("", -100).idle("cut 6", 0).idle("cut 6;cut 7", 0).idle(";", -100).idle("cut 6;", -106);
        // A word that is no command is an error at its first letter, a command that ends too early at its end.
        r.idle("cu", -100).idle("cut", -103).idle("cut ", -104).idle("cut 6;cappe", -106).idle("cut 6;capped", -112);
        r.idle("cut 6;cappedx 1", -106).idle("cut 6;capped1", -112).idle("weigh 0 1", -100).idle("weighe 1", -100);
        // One to three digits and possibly a minus sign.
        r.idle("cut 999", 0).idle("cut -999", 0).idle("cut 9999", -107).idle("cut -", -105).idle("cut --1", -105);
        // A space behind a whole command is an error at its place.
        r.idle("cut 0 ", -105).idle("cut 0 ;cut 0", -105).idle("arc 0 1 5 ", -109).idle("cut 0;cut 0 ", -111);
        r.program("weight 00 -0", 1).due("weight(0, 0)", 0).program("weight 0 005;cut 005", 2).due("weight(0, 0)", 5);
    }

    private static void lists() {
        Run r = run("lists", 4).leaves("put(3, 0, 1)", MISSING).leaves("put(4, 0, 1)", NONE).due("list(3, 64)", 1);
        r.due("list(0, 0)", 1).due("put(3, 63, -2147483648)", 1).leaves("get(3, 63)", Integer.MIN_VALUE);
        r.leaves("list(3, 65)", BAD).leaves("put(0, 0, 1)", -13).leaves("put(1, 0, 1)", MISSING)
                .leaves("judge(0, 0)", MISSING);
    }

    private static void sameNumberOfElements() {
        for (int n : new int[] {1, 4, 6}) {
            Run r = Run.rich(check, "description, the same number", n);
            r.due("points(" + n + ")", n).asks("count(0)", n).asks("count(1)", 0).asks("count(2)", 0)
                    .asks("count(3)", 0);
            r.asks("count(4)", 26).asks("get(2, 63)", -7).asks("paper(0)", '-').due("weight(0, 0)", 0)
                    .due("cap(2, 0)", 1);
            r.due("block(0, 0)", 0).due("back()", 4).asks("value(0, 0)", -3);
        }
    }

    private static void sumWithItself() {
        run("sum with itself", 2).tells(0, 1, -2, 3, 0).due("sum(0, 0, 0)", 1).has(0, 2, -4, 6, 0)
                .due("sum(0, 0, 1)", 1)
                .has(1, 4, -8, 12, 0).has(0, 2, -4, 6, 0);
    }

    private static void shortLists() {
        Run r = run("short lists", 6).tells(0, s -> 7 * s - TOP).does("list(0, 1); put(0, 0, 4)").due("lay(0, 0)", 1);
        r.has(0, s -> s == 0 ? 4 : 0);
    }

    /** Those that answer a long say NO for every error, some others add -1000000 to it. */
    private static void errors() {
        Run r = Run.rich(check, "description, errors", 6);
        r.leaves("tell(6, 0, 0)", -1000001).leaves("tell(0, 64, 0)", -1000002).leaves("weight(6, 0)", -1000001);
        r.leaves("weight(0, 100)", -1000002).leaves("value(6, 0)", -1000001).leaves("value(0, 64)", -1000002);
        r.leaves("value(5, 0)", -1000011).leaves("gain(5, 0, 0)", NO).leaves("base(5, 0, 0)", NO);
        r.leaves("negative(5, 0)", NO).leaves("least(5)", NO).leaves("height(5, 0, 0)", NO)
                .leaves("wallValue(5, 0, 1)", NO);
        r.leaves("get(3, 0)", NO).leaves("clear(5)", MISSING).leaves("sum(5, 5, 5)", MISSING);
        // An answer that looks like an error may be none.
        r.does("tell(0, 1, -1); weight(0, -1)").leaves("value(0, 1)", -1).due("tell(0, 1, -2)", -1)
                .due("weight(0, -2)", -1);
        r.due("tell(0, 1, -11)", -2).leaves("value(0, 1)", -11).leaves("least(0)", -11).leaves("gain(0, 0, 0)", -8);
    }

    /** Where several errors apply, the one that is listed first. */
    private static void severalErrors() {
        Run r = Run.rich(check, "description, several errors", 4).does("tell(0, 15, 999999)");
        r.leaves("arc(4, 4, 100)", NONE).leaves("item(8, 100, 16)", NONE).leaves("cap(6, 7)", NONE);
        r.leaves("weight(4, 100)", DEEP + NONE).leaves("tell(6, 16, 1000000)", DEEP + NONE);
        r.leaves("sum(5, 0, 6)", NONE).leaves("sum(0, 5, 1)", MISSING).leaves("sum(0, 0, 1)", STATE);
        r.leaves("turn(5, 6)", NONE).leaves("cutBack(5, 6)", NONE).leaves("part(5, 16, 2, 6)", NONE);
        r.leaves("part(5, 16, 2, 0)", BAD).leaves("part(5, 15, 1, 0)", MISSING).leaves("part(0, 0, 1, 1)", STATE);
        r.leaves("held(5, 1000000, 6)", NONE).leaves("held(5, 1000000, 0)", BAD).leaves("held(5, 0, 0)", MISSING);
        r.leaves("of(5, 5)", NONE).leaves("taken(5, 6)", NONE).leaves("value(5, 16)", DEEP + BAD)
                .leaves("fails(5, 3)", NONE);
        r.leaves("based(5, 4)", NONE).leaves("leastSets(5, 4)", NONE).leaves("ring(5, 4)", NONE)
                .leaves("level(5, -2)", NONE);
        r.leaves("level(5, 9)", MISSING).leaves("wall(5, 1, 1)", NONE).leaves("most(5, 5, 2)", NONE)
                .leaves("most(5, 5, 0)", BAD);
        r.leaves("list(4, 65)", NONE).leaves("put(4, -1, 0)", NONE).leaves("put(3, -1, 0)", MISSING)
                .leaves("lay(6, 3)", NONE);
        r.leaves("lay(5, 3)", MISSING).leaves("judge(3, 6)", NONE).leaves("judge(3, 5)", MISSING);
    }

    private static void refusedCommandsAndSyntaxErrors() {
        Run r = Run.rich(check, "description, refused", 4).does("deeds()");
        // The tape is empty after a syntax error, and else nothing is changed; not even by the commands before it.
        r.idle("weight 0 88;cut 5;x", -118).idle("points 4", -100).idle("weight 0 88;weight 0 8888", -124);
        // Commands that are refused stand beside others that are executed.
        r.program("weight 4 1;weight 0 88;weight 0 100;cut 6", 1).due("weight(0, 0)", 88);
    }

    private static void fractions() {
        int[][] heights = {
            {0, 0, 1}, {1, 1, 4}, {2, 1, 2}, {3, 3, 4}, {4, 1, 1}, {-2, -1, 2}, {-6, -3, 2}, {-8, -2, 1}
        };
        for (int[] h : heights) {
            Run r = run("fractions", 4);
            for (int set = 1; set < 15; set++) {
                r.does(Run.text("tell", 0, set, 99));
            }
            r.does(Run.text("tell", 0, 15, h[0])).leaves("height(0, 0, 0)", h[1]).leaves("height(0, 0, 1)", h[2]);
        }
    }

    private static void constants() {
        check.due("NONE", NONE, -1);
        check.due("BAD", BAD, -2);
        check.due("STATE", STATE, -3);
        check.due("NOT", NOT, -5);
        check.due("MISSING", MISSING, -11);
        check.due("NO", NO, Long.MIN_VALUE);
    }
}
