import java.lang.reflect.Method;
import java.util.ArrayList;
import java.util.HashMap;
import java.util.List;
import java.util.Map;

/** A call as it stands in the text of a test, such as "arc(0, 1, 99)". */
final class Call {
    private static final Map<String, Method> METHODS = methods();
    private static final Map<String, Call> KNOWN = new HashMap<>();
    private static final long LOWEST_VALUE = -999999;

    private final String text;
    private final Method method;
    private final Object[] arguments;

    private Call(String text) {
        int open = text.indexOf('(');
        String inside = text.substring(open + 1, text.length() - 1);
        String[] numbers = inside.isEmpty() ? new String[0] : inside.split(", ");
        this.text = text;
        method = METHODS.get(text.substring(0, open));
        arguments = new Object[numbers.length];
        for (int i = 0; i < numbers.length; i++) {
            arguments[i] = Integer.valueOf(numbers[i]);
        }
    }

    private static Map<String, Method> methods() {
        Map<String, Method> found = new HashMap<>();
        for (Method m : LesseningGains.class.getMethods()) {
            if (m.getDeclaringClass() == LesseningGains.class) {
                found.put(m.getName(), m);
            }
        }
        return found;
    }

    static Call of(String text) {
        return KNOWN.computeIfAbsent(text, Call::new);
    }

    /** Several calls, with "; " between them. */
    static List<Call> listOf(String texts) {
        List<Call> calls = new ArrayList<>();
        for (String text : texts.split("; ")) {
            calls.add(of(text));
        }
        return calls;
    }

    /** The calls that feed a text. */
    static List<Call> feeding(String text) {
        List<Call> calls = new ArrayList<>();
        for (int i = 0; i < text.length(); i++) {
            calls.add(of("feed(" + (int) text.charAt(i) + ")"));
        }
        return calls;
    }

    long on(LesseningGains x) {
        try {
            return ((Number) method.invoke(x, arguments)).longValue();
        } catch (ReflectiveOperationException e) {
            throw new IllegalStateException(text, e);
        }
    }

    /** Whether an answer to this call reports an error. */
    boolean isError(long answer) {
        if (method.getReturnType() == long.class) {
            return answer == LesseningGains.NO;
        }
        switch (method.getName()) {
            case "tell": case "weight": case "value":
                return answer < LOWEST_VALUE;
            default:
                return answer < 0;
        }
    }

    @Override
    public String toString() {
        return text;
    }
}
