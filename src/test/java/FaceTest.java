import java.lang.reflect.Constructor;
import java.lang.reflect.Field;
import java.lang.reflect.Method;
import java.lang.reflect.Modifier;
import java.util.Set;
import java.util.TreeSet;

/** The public face, and rules 1 and 5 of LANGUAGE.md as far as they can be seen from outside. */
public final class FaceTest {
    private static final Set<String> FACE = Set.of(
        "int work(int, int, int)", "int small(int, int, int)", "int narrow(int)", "void tap(int, int)",
        "int filter(int)", "void stage(int, int, int)", "int chain(int)", "void calm()", "void put(int, int, int)",
        "int transform(int, boolean)", "int get(int, boolean)", "int wave(int, boolean)", "int angle(int, int)",
        "int length(int, int)");

    public static void main(String[] args) {
        Check check = new Check();
        check.holds("the class is public and final",
            Modifier.isPublic(FixedSignals.class.getModifiers()) && Modifier.isFinal(FixedSignals.class.getModifiers()));
        methods(check);
        constructors(check);
        fields(check, FixedSignals.class);
        for (Class<?> inside : FixedSignals.class.getDeclaredClasses()) {
            check.holds(inside + " is static and not public",
                Modifier.isStatic(inside.getModifiers()) && !Modifier.isPublic(inside.getModifiers()));
            fields(check, inside);
        }
        check.end();
    }

    private static void methods(Check check) {
        Set<String> seen = new TreeSet<>();
        Set<String> names = new TreeSet<>();
        for (Method method : FixedSignals.class.getDeclaredMethods()) {
            if (Modifier.isPublic(method.getModifiers())) {
                seen.add(told(method));
                names.add(method.getName());
            }
        }
        check.holds("the face is " + new TreeSet<>(FACE) + " and not " + seen, seen.equals(FACE));
        for (Method method : FixedSignals.class.getDeclaredMethods()) {
            if (!Modifier.isPublic(method.getModifiers())) {
                check.holds(method + " is private", Modifier.isPrivate(method.getModifiers()));
                check.holds(method + " has a name of its own", !names.contains(method.getName()));
            }
        }
    }

    private static String told(Method method) {
        StringBuilder text = new StringBuilder(method.getReturnType() + " " + method.getName() + "(");
        String join = "";
        for (Class<?> type : method.getParameterTypes()) {
            text.append(join).append(type);
            join = ", ";
        }
        return text.append(")").toString();
    }

    private static void constructors(Check check) {
        Constructor<?>[] all = FixedSignals.class.getDeclaredConstructors();
        check.due("the number of constructors", all.length, 1);
        check.holds("it is public and takes nothing",
            Modifier.isPublic(all[0].getModifiers()) && all[0].getParameterCount() == 0);
    }

    private static void fields(Check check, Class<?> owner) {
        for (Field field : owner.getDeclaredFields()) {
            check.holds(field + " is private", Modifier.isPrivate(field.getModifiers()));
            if (Modifier.isStatic(field.getModifiers())) {
                check.holds(field + " is final", Modifier.isFinal(field.getModifiers()));
            }
        }
    }
}
