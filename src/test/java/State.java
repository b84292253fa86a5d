import java.util.ArrayList;
import java.util.List;

/**
 * All that can be learned of an object's state. Many of the questions change what they ask for, and an object
 * is used for 512 calls only, so each look is taken at a new object that has made the same calls.
 */
final class State {
    private static final int MOST_CALLS = 512;
    private static final List<List<Call>> LOOKS = looks();

    private State() {
    }

    /** What the looks answer after the given calls. */
    static long[] after(List<Call> calls) {
        List<Long> answers = new ArrayList<>();
        for (List<Call> look : LOOKS) {
            if (calls.size() + look.size() > MOST_CALLS) {
                throw new IllegalStateException("too many calls for one object: " + calls.size());
            }
            LesseningGains x = new LesseningGains();
            for (Call call : calls) {
                call.on(x);
            }
            for (Call call : look) {
                answers.add(call.on(x));
            }
        }
        return answers.stream().mapToLong(Long::longValue).toArray();
    }

    /** The question to which the answer at a place belongs. */
    static String question(int place) {
        int rest = place;
        for (List<Call> look : LOOKS) {
            if (rest < look.size()) {
                return look.get(rest) + " in the look that begins with " + look.get(0);
            }
            rest -= look.size();
        }
        return "no question";
    }

    private static List<List<Call>> looks() {
        List<List<Call>> looks = new ArrayList<>(world());
        looks.addAll(lists());
        looks.addAll(paper());
        for (String first : new String[] {"deeds()", "back()"}) {
            for (List<Call> look : world()) {
                List<Call> later = new ArrayList<>(Call.listOf(first));
                later.addAll(look);
                looks.add(later);
            }
        }
        return looks;
    }

    /** What an image saves, and the counts. */
    private static List<List<Call>> world() {
        return List.of(Call.listOf(data()), Call.listOf(items()), Call.listOf(functions(0)), Call.listOf(functions(3)));
    }

    private static String data() {
        StringBuilder calls = new StringBuilder("count(0)");
        for (int what = 1; what < 6; what++) {
            calls.append("; count(").append(what).append(")");
        }
        for (int i = 0; i < 6; i++) {
            calls.append("; block(").append(i).append(", 0); cap(").append(i).append(", 0); weight(").append(i)
                    .append(", 0)");
            for (int j = 0; j < 6; j++) {
                calls.append("; arc(").append(i).append(", ").append(j).append(", 0)");
            }
        }
        return calls.toString();
    }

    /** Takes one item after the other away, so that each shows its own set. */
    private static String items() {
        StringBuilder calls = new StringBuilder("count(3)");
        for (int item = 0; item < 8; item++) {
            calls.append("; cover(0)");
            for (int p = 0; p < 6; p++) {
                calls.append("; value(0, ").append(1 << p).append(")");
            }
            calls.append("; item(").append(item).append(", 0, 0)");
        }
        return calls.toString();
    }

    /** Three functions, the first of them f. */
    private static String functions(int f) {
        StringBuilder calls = new StringBuilder("count(1)");
        for (int g = f; g < f + 3; g++) {
            calls.append("; of(").append(g).append(", 0)");
            for (int set = 0; set < 64; set++) {
                calls.append("; value(").append(g).append(", ").append(set).append(")");
            }
        }
        return calls.toString();
    }

    private static List<List<Call>> lists() {
        List<List<Call>> looks = new ArrayList<>();
        for (int list = 0; list < 4; list++) {
            StringBuilder calls = new StringBuilder("put(" + list + ", 64, 0)");
            for (int i = 0; i < 64; i++) {
                calls.append("; get(").append(list).append(", ").append(i).append(")");
            }
            looks.add(Call.listOf(calls.toString()));
        }
        return looks;
    }

    private static List<List<Call>> paper() {
        List<List<Call>> looks = new ArrayList<>();
        for (int from = 0; from < 512; from += 128) {
            StringBuilder calls = new StringBuilder("count(5)");
            for (int i = from; i < from + 128; i++) {
                calls.append("; paper(").append(i).append(")");
            }
            looks.add(Call.listOf(calls.toString()));
        }
        return looks;
    }
}
