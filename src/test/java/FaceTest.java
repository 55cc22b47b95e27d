import java.lang.reflect.Constructor;
import java.lang.reflect.Field;
import java.lang.reflect.Method;
import java.lang.reflect.Modifier;
import java.util.Set;
import java.util.TreeSet;

/** The public face: what the document names, and nothing beside it. */
public final class FaceTest {
    private static final Checks CHECKS = new Checks();

    private static final Set<String> METHODS = Set.of(
        "int attic(int,int)", "int make(int,int,int,boolean)", "int move(int,int,int)",
        "int get(int,int,int,int)", "int put(int,int,int,int)", "int drop(int,int)",
        "int store(int,int,int)", "int load(int,int,int)", "int same(int,int,int,int)",
        "int weak(int,int,int)", "int strong(int,int,int)", "int pair(int,int,int)",
        "int value(int,int,int)", "int wish(int,int)", "int begin()", "int sweep(int)",
        "int under()", "int about(int,int)", "int field(int,int)", "int holder(int)",
        "int cell(int)", "int count(int)", "int lost()", "long digest()");

    private static final Set<String> CONSTANTS = Set.of("NONE", "BAD", "NO", "FULL", "LOST");

    public static void main(String[] args) {
        methods();
        constants();
        constructors();
        CHECKS.finish();
    }

    private static void methods() {
        Set<String> seen = new TreeSet<>();
        Set<String> hidden = new TreeSet<>();
        Set<String> names = new TreeSet<>();
        for (Method method : AtticSweep.class.getDeclaredMethods()) {
            if (method.isSynthetic()) {
                continue;
            }
            int how = method.getModifiers();
            if (Modifier.isPublic(how)) {
                seen.add(written(method));
                names.add(method.getName());
            } else {
                CHECKS.holds(method + " is private", Modifier.isPrivate(how));
                hidden.add(method.getName());
            }
        }
        CHECKS.holds("the methods are those of the document, not " + seen, seen.equals(METHODS));
        hidden.retainAll(names);
        CHECKS.holds("no private method bears a public one's name, as do " + hidden, hidden.isEmpty());
    }

    private static String written(Method method) {
        StringBuilder text = new StringBuilder();
        for (Class<?> type : method.getParameterTypes()) {
            text.append(text.length() == 0 ? "" : ",").append(type.getSimpleName());
        }
        return method.getReturnType().getSimpleName() + " " + method.getName() + "(" + text + ")";
    }

    private static void constants() {
        Set<String> seen = new TreeSet<>();
        for (Field field : AtticSweep.class.getDeclaredFields()) {
            int how = field.getModifiers();
            if (Modifier.isStatic(how)) {
                CHECKS.holds(field + " is final", Modifier.isFinal(how));
            }
            if (Modifier.isPublic(how)) {
                seen.add(field.getName());
            } else {
                CHECKS.holds(field + " is private", Modifier.isPrivate(how));
            }
        }
        CHECKS.holds("the constants are those of the document, not " + seen, seen.equals(CONSTANTS));
        CHECKS.due("NONE", AtticSweep.NONE, -1);
        CHECKS.due("BAD", AtticSweep.BAD, -2);
        CHECKS.due("NO", AtticSweep.NO, -3);
        CHECKS.due("FULL", AtticSweep.FULL, -4);
        CHECKS.due("LOST", AtticSweep.LOST, -5);
    }

    private static void constructors() {
        Constructor<?>[] all = AtticSweep.class.getDeclaredConstructors();
        CHECKS.due("how many constructors", all.length, 1);
        CHECKS.due("its parameters", all[0].getParameterCount(), 0);
        int how = AtticSweep.class.getModifiers();
        CHECKS.holds("public and final", Modifier.isPublic(how) && Modifier.isFinal(how));
        for (Class<?> inner : AtticSweep.class.getDeclaredClasses()) {
            int of = inner.getModifiers();
            CHECKS.holds(inner + " is static and not public", Modifier.isStatic(of) && !Modifier.isPublic(of));
        }
    }
}
