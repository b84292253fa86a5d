import java.lang.reflect.Constructor;
import java.lang.reflect.Field;
import java.lang.reflect.Method;
import java.lang.reflect.Modifier;
import java.util.Arrays;
import java.util.Set;
import java.util.TreeSet;

/** The public face of the document, and that nothing else of the class can be seen. */
public final class FaceTest {
    private static final String METHODS = """
            int points(int)
            int arc(int,int,int)
            int item(int,int,int)
            int block(int,int)
            int cap(int,int)
            int weight(int,int)
            int tell(int,int,int)
            int cut(int)
            int cover(int)
            int capped(int)
            int weighed(int)
            int sum(int,int,int)
            int turn(int,int)
            int cutBack(int,int)
            int part(int,int,int,int)
            int held(int,int,int)
            int clear(int)
            int of(int,int)
            int taken(int,int)
            int value(int,int)
            long gain(int,int,int)
            int fails(int,int)
            long base(int,int,int)
            long negative(int,int)
            int based(int,int)
            long least(int)
            int leastSets(int,int)
            int ring(int,int)
            int level(int,int)
            long height(int,int,int)
            int wall(int,int,int)
            long wallValue(int,int,int)
            int most(int,int,int)
            int feed(int)
            int deeds()
            int write(int)
            int paper(int)
            int list(int,int)
            int put(int,int,int)
            long get(int,int)
            int lay(int,int)
            int judge(int,int)
            int image()
            int back()
            int count(int)
            """;
    private static final Check check = new Check();

    public static void main(String[] args) {
        constants();
        methods();
        fieldsAndConstructor();
        namesAreNotShared();
        check.end();
    }

    private static void constants() {
        check.due("NONE", LesseningGains.NONE, -1);
        check.due("BAD", LesseningGains.BAD, -2);
        check.due("STATE", LesseningGains.STATE, -3);
        check.due("NOT", LesseningGains.NOT, -5);
        check.due("MISSING", LesseningGains.MISSING, -11);
        check.due("NO", LesseningGains.NO, Long.MIN_VALUE);
    }

    private static void methods() {
        Set<String> due = new TreeSet<>(Arrays.asList(METHODS.split("\n")));
        Set<String> seen = new TreeSet<>();
        for (Method m : LesseningGains.class.getDeclaredMethods()) {
            if (!Modifier.isPrivate(m.getModifiers())) {
                check.holds(m.getName() + " is public", Modifier.isPublic(m.getModifiers()));
                seen.add(m.getReturnType() + " " + m.getName() + Arrays.toString(m.getParameterTypes())
                        .replace("[", "(").replace("]", ")").replace(" ", ""));
            }
        }
        check.holds("the methods are " + seen, seen.equals(due));
    }

    private static void fieldsAndConstructor() {
        Set<String> seen = new TreeSet<>();
        for (Field f : LesseningGains.class.getDeclaredFields()) {
            if (!Modifier.isPrivate(f.getModifiers())) {
                seen.add(f.getType() + " " + f.getName());
            }
            if (Modifier.isStatic(f.getModifiers())) {
                check.holds(f.getName() + " is final", Modifier.isFinal(f.getModifiers()));
            }
        }
        check.holds("the fields are " + seen, seen.equals(Set.of(
                "int NONE", "int BAD", "int STATE", "int NOT", "int MISSING", "long NO")));
        Constructor<?>[] constructors = LesseningGains.class.getDeclaredConstructors();
        check.due("constructors", constructors.length, 1);
        check.due("its parameters", constructors[0].getParameterCount(), 0);
        check.holds("the class is final", Modifier.isFinal(LesseningGains.class.getModifiers()));
    }

    private static void namesAreNotShared() {
        for (Class<?> inside : LesseningGains.class.getDeclaredClasses()) {
            check.holds(inside + " is static", Modifier.isStatic(inside.getModifiers()));
            for (Method m : inside.getDeclaredMethods()) {
                check.holds(m + " has its own name", !METHODS.contains(" " + m.getName() + "("));
            }
        }
        for (Method m : LesseningGains.class.getDeclaredMethods()) {
            if (Modifier.isPrivate(m.getModifiers())) {
                check.holds(m + " has its own name", !METHODS.contains(" " + m.getName() + "("));
            }
        }
    }
}
