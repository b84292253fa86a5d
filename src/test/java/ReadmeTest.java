import java.io.File;
import java.io.IOException;
import java.lang.reflect.Method;
import java.nio.file.Files;
import java.nio.file.Path;
import java.util.ArrayList;
import java.util.Arrays;
import java.util.HashSet;
import java.util.List;
import java.util.Map;
import java.util.Set;
import java.util.TreeMap;
import java.util.TreeSet;
import java.util.regex.Matcher;
import java.util.regex.Pattern;

/** What README.md says: its examples and its tables. It is read from the directory in which the test is run. */
public final class ReadmeTest {
    private static final String MADE = "LesseningGains x = new LesseningGains();";
    private static final String ONE_NUMBER = "0b[01]+|-?\\d+|'.'";
    private static final Pattern EXAMPLE = Pattern.compile(
            "x\\.(\\w+)\\(((?:(?:" + ONE_NUMBER + ")(?:, )?)*)\\); +// ([^:]+|'.')(?:: .+)?");
    private static final Pattern NUMBER = Pattern.compile(ONE_NUMBER);
    private static final Pattern QUOTED = Pattern.compile("`([^`]+)`");
    private static final int DEEP = -1000000;
    /** Calls that one object is asked after it has been prepared. */
    private static final int QUESTIONS = 256;
    private static final Map<String, Long> CONSTANTS = Map.of("NONE", -1L, "BAD", -2L, "STATE", -3L, "NOT", -5L,
            "MISSING", -11L, "NO", Long.MIN_VALUE);
    private static final Check check = new Check();

    public static void main(String[] args) throws IOException {
        List<String> lines = Files.readAllLines(Path.of("README.md"));
        examples(lines);
        commands(String.join(" ", lines));
        sets(rows(lines, "set"));
        constants(rows(lines, "constant"));
        errors(rows(lines, "how an error is answered"));
        tests(rows(lines, "test"));
        check.end();
    }

    // ---- the examples

    private static void examples(List<String> lines) {
        Set<String> shown = new TreeSet<>();
        LesseningGains x = null;
        boolean inside = false;
        for (String line : lines) {
            if (line.startsWith("```")) {
                inside = line.equals("```java");
                x = null;
            } else if (inside && line.equals(MADE)) {
                x = new LesseningGains();
            } else if (inside) {
                shown.add(example(x, line));
            }
        }
        check.holds("the examples show every method, they show " + shown, shown.equals(publicMethods().keySet()));
    }

    /** Makes the call of a line and answers the name of its method. */
    private static String example(LesseningGains x, String line) {
        Matcher m = EXAMPLE.matcher(line);
        boolean understood = x != null && m.matches() && publicMethods().containsKey(m.group(1));
        check.holds("README.md: the line \"" + line + "\" is a call with its answer", understood);
        if (!understood) {
            return "";
        }
        List<String> numbers = new ArrayList<>();
        Matcher argument = NUMBER.matcher(m.group(2));
        while (argument.find()) {
            numbers.add("" + number(argument.group()));
        }
        Call call = Call.of(m.group(1) + "(" + String.join(", ", numbers) + ")");
        check.due("README.md: " + line, call.on(x), answer(m.group(3)));
        return m.group(1);
    }

    private static long answer(String text) {
        String lift = DEEP + " + ";
        if (text.startsWith(lift)) {
            return DEEP + CONSTANTS.get(text.substring(lift.length()));
        }
        return CONSTANTS.containsKey(text) ? CONSTANTS.get(text) : number(text);
    }

    private static int number(String text) {
        if (text.startsWith("'")) {
            return text.charAt(1);
        }
        return text.startsWith("0b") ? Integer.parseInt(text.substring(2), 2) : Integer.parseInt(text);
    }

    /** The program that is shown, and the commands with names for their numbers: "cut f" stands for "cut 0". */
    private static void commands(String page) {
        int begin = page.indexOf("Commands are fed");
        List<String> shown = quoted(page.substring(Math.max(0, begin), page.indexOf("```java", begin)));
        check.due("README.md: the program and the commands", shown.size(), 12);
        for (String text : shown) {
            boolean program = text.contains(";");
            int answer = Check.run(new LesseningGains(), program ? text : text.replaceAll(" [a-z]+", " 0"));
            check.holds("README.md: " + text + " is as it should be", program ? answer == 3 : answer >= 0);
        }
    }

    private static Map<String, Method> publicMethods() {
        Map<String, Method> found = new TreeMap<>();
        for (Method m : LesseningGains.class.getMethods()) {
            if (m.getDeclaringClass() == LesseningGains.class) {
                found.put(m.getName(), m);
            }
        }
        return found;
    }

    // ---- the tables

    /** The rows of the table whose first column has the given head, without the quotes of code. */
    private static List<String[]> rows(List<String> lines, String head) {
        List<String[]> rows = new ArrayList<>();
        boolean inside = false;
        for (String line : lines) {
            if (inside && line.startsWith("| ") && !line.startsWith("| ---")) {
                rows.add(line.substring(2, line.length() - 2).split(" +\\| +|\\| "));
            }
            inside = line.startsWith("| " + head + " |") || inside && line.startsWith("|");
        }
        check.holds("README.md has the table \"" + head + "\"", !rows.isEmpty());
        return rows;
    }

    private static List<String> quoted(String text) {
        List<String> found = new ArrayList<>();
        Matcher m = QUOTED.matcher(text);
        while (m.find()) {
            found.add(m.group(1));
        }
        return found;
    }

    /** The same set three times: its elements, the int and the int in binary. */
    private static void sets(List<String[]> rows) {
        for (String[] row : rows) {
            int set = Integer.parseInt(row[1]);
            StringBuilder elements = new StringBuilder();
            LesseningGains x = new LesseningGains();
            for (int p = 0; p < 4; p++) {
                x.weight(p, 1);
                x.weighed(0);
                if (x.value(0, set) == 1) {
                    elements.append(elements.length() == 0 ? "" : ", ").append(p);
                }
                x.weight(p, 0);
            }
            check.holds("README.md: " + row[0] + " is " + set, row[0].equals("{" + elements + "}"));
            check.due("README.md: " + row[2], number(quoted(row[2]).get(0)), set);
        }
    }

    private static void constants(List<String[]> rows) {
        Set<String> told = new HashSet<>();
        for (String[] row : rows) {
            String name = quoted(row[0]).get(0);
            told.add(name);
            check.holds("README.md: " + name, row[1].equals(name.equals("NO") ? "Long.MIN_VALUE" : "" + constant(name)));
            check.due("README.md: " + name, CONSTANTS.get(name), constant(name));
        }
        check.holds("README.md has every constant", told.equals(CONSTANTS.keySet()));
    }

    private static long constant(String name) {
        try {
            return LesseningGains.class.getField(name).getLong(null);
        } catch (ReflectiveOperationException e) {
            throw new IllegalStateException(name, e);
        }
    }

    // ---- the errors of each method

    private static void errors(List<String[]> rows) {
        Set<String> told = new TreeSet<>();
        for (String[] row : rows) {
            for (String method : quoted(row[2])) {
                check.holds("README.md tells the errors of " + method + " once", told.add(method));
                Set<Long> due = dueErrors(method, row[0], quoted(row[1]));
                Set<Long> seen = seenErrors(method, row[0]);
                check.holds("README.md: " + method + " answers the errors " + due + ", seen are " + seen,
                        seen.equals(due));
            }
        }
        check.holds("README.md tells the errors of every method", told.equals(publicMethods().keySet()));
    }

    private static Set<Long> dueErrors(String method, String how, List<String> names) {
        Set<Long> errors = new TreeSet<>();
        for (String name : names) {
            long error = name.startsWith("-") ? Long.parseLong(name) : CONSTANTS.get(name);
            errors.add(how.startsWith("-1000000 plus") ? DEEP + error : error);
        }
        if (method.equals("deeds")) {
            // The prepared tapes have syntax errors at these positions.
            errors.addAll(Arrays.asList(-100L, -105L));
        }
        return errors;
    }

    /** All errors that a method answers in several states, with all arguments that are at an edge or beyond it. */
    private static Set<Long> seenErrors(String method, String how) {
        Set<Long> seen = new TreeSet<>();
        List<String> texts = new ArrayList<>();
        addCalls(texts, method + "(", publicMethods().get(method).getParameterCount(), 0);
        for (String state : states()) {
            int left = 0;
            LesseningGains x = null;
            for (String text : texts) {
                // A call that changes something must not hide what the next one answers.
                if (left == 0 || !isQuestion(method)) {
                    x = prepared(state);
                    left = QUESTIONS;
                }
                left--;
                long answer = Call.of(text).on(x);
                if (isError(how, answer)) {
                    seen.add(answer);
                }
            }
        }
        return seen;
    }

    private static boolean isQuestion(String method) {
        return Set.of("of", "taken", "value", "gain", "fails", "base", "negative", "based", "least", "leastSets", "ring",
                "level", "height", "wall", "wallValue", "most", "paper", "get", "judge", "count").contains(method);
    }

    private static boolean isError(String how, long answer) {
        if (how.startsWith("-1000000 plus")) {
            return answer < -999999;
        }
        return how.startsWith("`NO`") ? answer == LesseningGains.NO : answer < 0;
    }

    private static void addCalls(List<String> texts, String begun, int parameters, int given) {
        if (given == parameters) {
            texts.add(begun + ")");
            return;
        }
        int[] numbers = parameters == 4
                ? new int[] {-1, 0, 1, 3, 6, 16} : new int[] {-1000000, -1, 0, 1, 2, 3, 5, 6, 16, 65, 100, 128, 1000000};
        for (int number : numbers) {
            addCalls(texts, begun + (given == 0 ? "" : ", ") + number, parameters, given + 1);
        }
    }

    /** The calls that lead to states in which every error comes up. */
    private static List<String> states() {
        StringBuilder full = new StringBuilder("feed(32)");
        for (int i = 1; i < 100; i++) {
            full.append("; feed(32)");
        }
        return List.of("count(0)",
                "cut(0); cover(1); list(0, 65); list(0, 64); list(1, 0); list(2, 2); put(2, 0, 1); weight(0, -9)",
                "tell(0, 0, -999999); tell(0, 1, -999999); tell(0, 15, 999999); tell(1, 5, 999999); weight(0, -9)",
                "cut(0); feed(99); feed(117); feed(116); feed(32); feed(48); feed(32)", full.toString());
    }

    private static LesseningGains prepared(String state) {
        LesseningGains x = new LesseningGains();
        for (Call call : Call.listOf(state)) {
            call.on(x);
        }
        return x;
    }

    // ---- the table of the tests

    private static void tests(List<String[]> rows) {
        Set<String> told = new TreeSet<>();
        for (String[] row : rows) {
            told.add(row[0] + ".java");
            check.holds("README.md says what " + row[0] + " is for", row.length == 2 && !row[1].isEmpty());
        }
        Set<String> there = new TreeSet<>();
        String[] files = new File("src/test/java").list();
        for (String file : files == null ? new String[0] : files) {
            if (file.endsWith("Test.java")) {
                there.add(file);
            }
        }
        check.holds("README.md has the tests " + told + ", there are " + there, told.equals(there));
    }
}
