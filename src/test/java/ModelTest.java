import java.lang.reflect.Method;
import java.lang.reflect.Modifier;
import java.util.ArrayList;
import java.util.Arrays;
import java.util.Comparator;
import java.util.List;
import java.util.Random;

/** Runs of random calls, the same on the class and on the model; the seeds are fixed, so each run is always the same. */
public final class ModelTest {
    private static final int RUNS = 250;
    private static final int CALLS = 512;
    private static final String[] WORDS = {
        "arc", "item", "block", "cap", "weight", "cut", "cover", "capped", "weighed", "sum", "turn"
    };
    private static final int[] NUMBERS = {3, 3, 2, 2, 2, 1, 1, 1, 1, 3, 2};
    private static final String SIGNS = "abcdeghilmoprstuvw0123456789 ;- CT~";
    private static final int[] EDGES = {
        Integer.MIN_VALUE, Integer.MAX_VALUE, -1000001, -1000000, -999999, 999999, 1000000, -100, -99, 99, 100, 64, 65, 128
    };
    private static final Check check = new Check();

    private final Random random;
    private final LesseningGains x = new LesseningGains();
    private final Model model = new Model();
    private final List<Method> methods;
    private int n = 4;

    private ModelTest(long seed, List<Method> methods) {
        random = new Random(seed);
        this.methods = methods;
    }

    public static void main(String[] args) throws Exception {
        List<Method> methods = new ArrayList<>();
        for (Method m : LesseningGains.class.getDeclaredMethods()) {
            if (Modifier.isPublic(m.getModifiers())) {
                methods.add(m);
            }
        }
        methods.sort(Comparator.comparing(Method::getName));
        for (int run = 0; run < RUNS && check.wrong() == 0; run++) {
            new ModelTest(run, methods).run();
        }
        check.end();
    }

    private void run() throws Exception {
        if (random.nextInt(4) > 0) {
            n = 1 + random.nextInt(6);
            call("points", n);
        }
        int left = CALLS - 1;
        while (left > 0) {
            int choice = random.nextInt(40);
            if (choice == 0 && left > 101) {
                left -= program();
            } else if (choice == 1 && left > 64) {
                left -= table();
            } else {
                left -= single();
            }
        }
    }

    private int single() throws Exception {
        Method m = methods.get(random.nextInt(methods.size()));
        boolean rare = m.getName().equals("points") || m.getName().equals("clear") || m.getName().equals("back");
        if (rare && random.nextInt(6) > 0) {
            return 0;
        }
        int[] arguments = new int[m.getParameterCount()];
        for (int i = 0; i < arguments.length; i++) {
            arguments[i] = argument(m.getName(), i);
        }
        call(m.getName(), arguments);
        n = model.count(0);
        return 1;
    }

    /** Mostly an argument that is allowed there, sometimes one at an edge or far out. */
    private int argument(String name, int place) {
        int kind = random.nextInt(60);
        if (kind == 0) {
            return EDGES[random.nextInt(EDGES.length)];
        }
        if (kind == 1) {
            return random.nextInt(12) - 3;
        }
        if (kind == 2) {
            return (1 << n) - random.nextInt(2);
        }
        switch (name + place) {
            case "tell2": case "held1": case "put2":
                return number();
            case "arc2": case "item1":
                return random.nextInt(100);
            case "weight1":
                return random.nextInt(3) == 0 ? random.nextInt(199) - 99 : random.nextInt(7) - 3;
            case "cap1":
                return random.nextInt(7);
            case "item2": case "tell1": case "part1": case "value1": case "gain1":
                return random.nextInt(1 << n);
            case "base1": case "negative1":
                return random.nextInt(new int[] {1, 1, 2, 6, 24, 120, 720}[n] + 1);
            case "feed0":
                return SIGNS.charAt(random.nextInt(SIGNS.length()));
            case "paper0":
                return random.nextInt(100);
            case "list1": case "put1": case "get1":
                return random.nextInt(random.nextBoolean() ? 5 : 66);
            case "arc0": case "arc1": case "block0": case "weight0": case "gain2": case "base2":
            case "ring1": case "wall1": case "wall2": case "wallValue1": case "wallValue2":
                return random.nextInt(n);
            case "list0": case "put0": case "get0": case "lay1": case "judge0":
                return random.nextInt(4);
            case "part2": case "height2": case "most2":
                return random.nextInt(2);
            case "level1":
                return random.nextInt(5) - 1;
            case "of1":
                return random.nextInt(5);
            case "based1": case "leastSets1": case "fails1":
                return random.nextInt(4);
            default:
                return random.nextInt(6);
        }
    }

    private int number() {
        switch (random.nextInt(8)) {
            case 0:
                return random.nextInt(2) * 1999998 - 999999;
            case 1:
                return random.nextInt(1999999) - 999999;
            default:
                return random.nextInt(9) - 4;
        }
    }

    /** A whole table of small values, so that ties and nearly submodular functions come up. */
    private int table() throws Exception {
        int f = random.nextInt(6);
        int steps = 1 + random.nextInt(4);
        for (int set = 0; set < 1 << n; set++) {
            int size = Integer.bitCount(set);
            call("tell", f, set, size * (2 * n - size) / 2 + random.nextInt(steps) - 2 * size);
        }
        return 1 << n;
    }

    /** A program, now and then with a fault in it. */
    private int program() throws Exception {
        call("deeds");
        StringBuilder text = new StringBuilder();
        int commands = 1 + random.nextInt(8);
        for (int c = 0; c < commands; c++) {
            text.append(c == 0 ? "" : ";").append(command());
        }
        int faults = random.nextInt(3);
        for (int i = 0; i < faults && text.length() > 0; i++) {
            spoil(text);
        }
        int length = Math.min(98, text.length());
        for (int i = 0; i < length; i++) {
            call("feed", text.charAt(i));
        }
        call("deeds");
        return length + 2;
    }

    private String command() {
        int word = random.nextInt(WORDS.length);
        StringBuilder text = new StringBuilder(WORDS[word]);
        for (int i = 0; i < NUMBERS[word]; i++) {
            int value = random.nextInt(4) == 0 ? random.nextInt(250) - 120 : random.nextInt(6);
            text.append(random.nextInt(9) == 0 ? " 0" : " ").append(value);
        }
        return text.toString().replace(" 0-", " -0");
    }

    private void spoil(StringBuilder text) {
        int at = random.nextInt(text.length());
        char sign = SIGNS.charAt(random.nextInt(SIGNS.length()));
        switch (random.nextInt(4)) {
            case 0:
                text.setLength(at);
                break;
            case 1:
                text.deleteCharAt(at);
                break;
            case 2:
                text.setCharAt(at, sign);
                break;
            default:
                text.insert(at, sign);
        }
    }

    private void call(String name, int... arguments) throws Exception {
        Class<?>[] types = new Class<?>[arguments.length];
        Object[] boxed = new Object[arguments.length];
        for (int i = 0; i < arguments.length; i++) {
            types[i] = int.class;
            boxed[i] = arguments[i];
        }
        Number got = (Number) LesseningGains.class.getMethod(name, types).invoke(x, boxed);
        Number due = (Number) Model.class.getDeclaredMethod(name, types).invoke(model, boxed);
        check.due(name + Arrays.toString(arguments), got.longValue(), due.longValue());
    }
}
