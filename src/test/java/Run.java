import java.util.ArrayList;
import java.util.LinkedHashSet;
import java.util.List;
import java.util.Set;
import java.util.function.IntUnaryOperator;

/** A run of calls on one object, written as texts, with the answers that are due. */
final class Run {
    private static final int MOST_CALLS = 512;

    private final Check check;
    private final String head;
    private final LesseningGains x = new LesseningGains();
    /** The calls so far that may have changed something. */
    private final List<Call> made = new ArrayList<>();
    private int calls;
    /** What State tells after the calls made; null while nobody has asked. */
    private long[] state;

    Run(Check check, String head) {
        this.check = check;
        this.head = head;
    }

    /** An object of n elements in which nothing is as at first, but for function 5 and list 3, which are missing. */
    static Run rich(Check check, String head, int n) {
        Run r = new Run(check, head + ", " + n + " elements");
        int all = (1 << n) - 1;
        r.does("points(" + n + ")");
        for (int i = 0; i < n; i++) {
            for (int j = 0; j < n; j++) {
                if (i != j) {
                    r.does(text("arc", i, j, 1 + 7 * i + j));
                }
            }
            r.does(text("block", i, (i + 1) % 6)).does(text("weight", i, i % 2 == 0 ? i + 3 : -i - 3));
        }
        for (int item = 0; item < 8; item++) {
            r.does(text("item", item, 20 + item, 1 + item % all));
        }
        for (int block = 0; block < 6; block++) {
            r.does(text("cap", block, block));
        }
        r.does("cut(1); cover(2); capped(3)").does("tell(0, 0, -3)").does(text("tell", 0, all, 8));
        r.does("list(0, 2); put(0, 0, -3); put(0, 1, 4); list(1, 0)");
        r.does("list(2, 64); put(2, 0, 1000000); put(2, 63, -7)");
        r.does("write(0); image()");
        // From here on the present state is not the saved one.
        r.does("weighed(4); item(0, 31, 0); cap(2, 6); block(0, 0); weight(0, 50)").does(text("tell", 0, all, 9));
        return r.feeds("weight 0 9;weighed 5;cut 0");
    }

    /** The text of a call. */
    static String text(String name, int... arguments) {
        StringBuilder text = new StringBuilder(name).append("(");
        for (int i = 0; i < arguments.length; i++) {
            text.append(i == 0 ? "" : ", ").append(arguments[i]);
        }
        return text.append(")").toString();
    }

    /** Calls that only prepare: none of them may report an error. */
    Run does(String texts) {
        for (Call call : Call.listOf(texts)) {
            long answer = make(call);
            check.holds(head + ": " + call + " is no error", !call.isError(answer));
        }
        return this;
    }

    Run due(String text, long answer) {
        Call call = Call.of(text);
        check.due(head + ": " + call, make(call), answer);
        return this;
    }

    /** A question: unlike due, it is not asked again when the state is compared. */
    Run asks(String text, long answer) {
        Call call = Call.of(text);
        count();
        check.due(head + ": " + call, call.on(x), answer);
        return this;
    }

    /** The call gives this answer and changes nothing, be it an error or a question. */
    Run leaves(String text, long answer) {
        asks(text, answer);
        List<Call> with = new ArrayList<>(made);
        with.add(Call.of(text));
        same(text, with);
        return this;
    }

    /** The sign # in the call stands for a number, which is allowed from lowest to highest; all beyond is refused. */
    Run outside(String text, long error, int lowest, int highest) {
        Set<Integer> numbers = new LinkedHashSet<>();
        numbers.add(lowest - 1);
        numbers.add(highest + 1);
        numbers.add(Integer.MIN_VALUE);
        numbers.add(Integer.MAX_VALUE);
        // What a shift, a byte or a short would take for the lowest or the highest that is allowed.
        for (int turn : new int[] {32, 64, 256, 65536}) {
            numbers.add(lowest + turn);
            numbers.add(highest + turn);
            numbers.add(lowest - turn);
            numbers.add(highest - turn);
        }
        for (int number : numbers) {
            if (number < lowest || number > highest) {
                leaves(text.replace("#", "" + number), error);
            }
        }
        return this;
    }

    /** Feeds a text. */
    Run feeds(String text) {
        for (Call call : Call.feeding(text)) {
            make(call);
        }
        return this;
    }

    /** Feeds a program and executes it. */
    Run program(String text, long answer) {
        feeds(text);
        check.due(head + ": \"" + text + "\"", make(Call.of("deeds()")), answer);
        return this;
    }

    /** A program that changes nothing; the tape is empty before it and must be empty after it. */
    Run idle(String text, long answer) {
        List<Call> with = new ArrayList<>(made);
        with.addAll(Call.feeding(text));
        with.add(Call.of("deeds()"));
        LesseningGains y = new LesseningGains();
        long got = 0;
        for (Call call : with) {
            got = call.on(y);
        }
        check.due(head + ": \"" + text + "\"", got, answer);
        same("\"" + text + "\"", with);
        return this;
    }

    /** The state is the one that another run has reached. */
    Run sameAs(Run other) {
        same("the other run", other.made);
        return this;
    }

    /** Tells a function the values of the sets 0, 1 and so on. */
    Run tells(int f, int... values) {
        for (int set = 0; set < values.length; set++) {
            does(text("tell", f, set, values[set]));
        }
        return this;
    }

    /** Tells a function its value for each set of six elements. */
    Run tells(int f, IntUnaryOperator value) {
        for (int set = 0; set < 64; set++) {
            does(text("tell", f, set, value.applyAsInt(set)));
        }
        return this;
    }

    /** A function has these values for the sets 0, 1 and so on. */
    Run has(int f, int... values) {
        for (int set = 0; set < values.length; set++) {
            asks(text("value", f, set), values[set]);
        }
        return this;
    }

    /** A function has this value for each set of six elements. */
    Run has(int f, IntUnaryOperator value) {
        for (int set = 0; set < 64; set++) {
            asks(text("value", f, set), value.applyAsInt(set));
        }
        return this;
    }

    /** The text is on the paper. */
    Run onPaper(String text) {
        asks("count(5)", text.length());
        for (int i = 0; i < text.length(); i++) {
            asks(text("paper", i), text.charAt(i));
        }
        return this;
    }

    private void count() {
        calls++;
        if (calls > MOST_CALLS) {
            throw new IllegalStateException(head + ": too many calls");
        }
    }

    private long make(Call call) {
        count();
        made.add(call);
        state = null;
        return call.on(x);
    }

    private void same(String what, List<Call> others) {
        if (state == null) {
            state = State.after(made);
        }
        long[] other = State.after(others);
        for (int i = 0; i < state.length; i++) {
            if (state[i] != other[i]) {
                check.due(head + ": after " + what + " " + State.question(i), other[i], state[i]);
                return;
            }
        }
        check.holds(head + ": after " + what + " all is the same", true);
    }
}
