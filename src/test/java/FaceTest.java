import java.lang.reflect.Constructor;
import java.lang.reflect.Field;
import java.lang.reflect.Method;
import java.lang.reflect.Modifier;
import java.util.Set;
import java.util.TreeSet;

/** "The public face", line by line, and rules 1 and 5 of LANGUAGE.md as far as they can be seen from outside. */
public final class FaceTest {
    private static final Set<String> FACE = Set.of(
        "public int work(int, int, int) throws IllegalArgumentException",
        "public int small(int, int, int) throws IllegalArgumentException",
        "public int narrow(int)",
        "public void tap(int, int) throws IllegalArgumentException",
        "public int filter(int) throws IllegalArgumentException",
        "public void stage(int, int, int) throws IllegalArgumentException",
        "public int chain(int) throws IllegalArgumentException",
        "public void calm()",
        "public void put(int, int, int) throws IllegalArgumentException",
        "public int transform(int, boolean) throws IllegalArgumentException",
        "public int get(int, boolean) throws IllegalArgumentException",
        "public int wave(int, boolean)",
        "public int angle(int, int) throws IllegalArgumentException",
        "public int length(int, int) throws IllegalArgumentException");

    public static void main(String[] args) {
        Check check = new Check();
        check.holds("the class is public and final",
            FixedSignals.class.getModifiers() == (Modifier.PUBLIC | Modifier.FINAL));
        check.holds("it has no package", FixedSignals.class.getPackageName().isEmpty());
        check.holds("it is a kind of nothing else",
            FixedSignals.class.getSuperclass() == Object.class && FixedSignals.class.getInterfaces().length == 0);
        methods(check);
        constructors(check);
        fields(check, FixedSignals.class);
        for (Class<?> inside : FixedSignals.class.getDeclaredClasses()) {
            check.holds(inside + " is static and not public",
                Modifier.isStatic(inside.getModifiers()) && !Modifier.isPublic(inside.getModifiers())
                    && !Modifier.isProtected(inside.getModifiers()));
            fields(check, inside);
        }
        check.end();
    }

    private static void methods(Check check) {
        Set<String> seen = new TreeSet<>();
        Set<String> names = new TreeSet<>();
        for (Method method : FixedSignals.class.getDeclaredMethods()) {
            if (Modifier.isPublic(method.getModifiers())) {
                seen.add(told(method));
                names.add(method.getName());
            }
        }
        check.holds("the face is " + new TreeSet<>(FACE) + " and not " + seen, seen.equals(FACE));
        for (Method method : FixedSignals.class.getDeclaredMethods()) {
            if (!Modifier.isPublic(method.getModifiers())) {
                check.holds(method + " is private", Modifier.isPrivate(method.getModifiers()));
                check.holds(method + " has a name of its own", !names.contains(method.getName()));
            }
        }
    }

    private static String told(Method method) {
        StringBuilder text = new StringBuilder(Modifier.toString(method.getModifiers()));
        text.append(" ").append(method.getReturnType()).append(" ").append(method.getName()).append("(");
        String join = "";
        for (Class<?> type : method.getParameterTypes()) {
            text.append(join).append(type);
            join = ", ";
        }
        text.append(")");
        for (Class<?> thrown : method.getExceptionTypes()) {
            text.append(" throws ").append(thrown.getSimpleName());
        }
        return text.toString();
    }

    private static void constructors(Check check) {
        Constructor<?>[] all = FixedSignals.class.getDeclaredConstructors();
        check.due("the number of constructors", all.length, 1);
        check.holds("it is public, takes nothing and throws nothing", Modifier.isPublic(all[0].getModifiers())
            && all[0].getParameterCount() == 0 && all[0].getExceptionTypes().length == 0);
    }

    private static void fields(Check check, Class<?> owner) {
        for (Field field : owner.getDeclaredFields()) {
            check.holds(field + " is private", Modifier.isPrivate(field.getModifiers()));
            if (Modifier.isStatic(field.getModifiers())) {
                check.holds(field + " is final", Modifier.isFinal(field.getModifiers()));
            }
        }
    }
}
