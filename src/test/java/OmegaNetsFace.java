import java.lang.reflect.Constructor;
import java.lang.reflect.Field;
import java.lang.reflect.Member;
import java.lang.reflect.Method;
import java.lang.reflect.Modifier;
import java.util.Arrays;
import java.util.Set;
import java.util.TreeSet;
import java.util.stream.Collectors;

/** The class has the public face of the document and no other member that can be seen. */
public final class OmegaNetsFace {
    private static final String STATE = "IllegalStateException";
    private static final String INDEX = "IndexOutOfBoundsException";
    private static final String ARGUMENT = "IllegalArgumentException";
    private static final String UNSUPPORTED = "UnsupportedOperationException";

    private static final Set<String> FACE = new TreeSet<>(Arrays.asList(
            "int OMEGA", "int NONE", "new(int, int) throws []",
            "int arc(int, int, int, int) throws " + list(INDEX, ARGUMENT),
            "int start(int, int) throws " + list(INDEX, ARGUMENT),
            "int want(int, int) throws " + list(INDEX, ARGUMENT),
            "boolean fire(int) throws " + list(INDEX),
            "int at(int) throws " + list(INDEX),
            "int reset() throws " + list(),
            "int explore() throws " + list(STATE),
            "int count(int, int) throws " + list(STATE, INDEX),
            "int node(int, int) throws " + list(STATE, INDEX, ARGUMENT),
            "int path(int, int) throws " + list(STATE, INDEX),
            "int bound(int) throws " + list(STATE, INDEX),
            "int tops() throws " + list(STATE),
            "int top(int) throws " + list(STATE, INDEX),
            "boolean covered() throws " + list(STATE),
            "boolean lives(int) throws " + list(STATE, INDEX),
            "int dead() throws " + list(STATE),
            "int back() throws " + list(STATE),
            "int goal(int, int) throws " + list(STATE, INDEX),
            "int length() throws " + list(STATE, UNSUPPORTED),
            "int way(int) throws " + list(STATE, UNSUPPORTED, INDEX)));

    private static int wrong = 0;

    private static String list(String... names) {
        return Arrays.toString(names);
    }

    private static String names(Class<?>[] types) {
        return Arrays.stream(types).map(Class::getSimpleName).collect(Collectors.joining(", "));
    }

    private static void check(boolean right, String what) {
        if (!right) {
            wrong++;
            System.out.println("wrong: " + what);
        }
    }

    private static void sort(Member member, String told, Set<String> visible) {
        if (!Modifier.isPrivate(member.getModifiers())) {
            check(Modifier.isPublic(member.getModifiers()), told + " is neither public nor private");
            visible.add(told);
        }
    }

    public static void main(String[] args) {
        Class<?> face = OmegaNets.class;
        check(Modifier.isPublic(face.getModifiers()) && Modifier.isFinal(face.getModifiers()), "the class is public and final");
        Set<String> visible = new TreeSet<>();
        Set<String> publicNames = new TreeSet<>();
        for (Field f : face.getDeclaredFields()) {
            sort(f, f.getType().getSimpleName() + " " + f.getName(), visible);
            check(!Modifier.isStatic(f.getModifiers()) || Modifier.isFinal(f.getModifiers()), f.getName() + " is static, so final");
        }
        for (Constructor<?> c : face.getDeclaredConstructors()) {
            sort(c, "new(" + names(c.getParameterTypes()) + ") throws [" + names(c.getExceptionTypes()) + "]", visible);
        }
        for (Method m : face.getDeclaredMethods()) {
            sort(m, m.getReturnType().getSimpleName() + " " + m.getName() + "(" + names(m.getParameterTypes()) + ") throws ["
                    + names(m.getExceptionTypes()) + "]", visible);
            check(Modifier.isPrivate(m.getModifiers()) || !Modifier.isStatic(m.getModifiers()), m.getName() + " is not static");
            if (Modifier.isPublic(m.getModifiers())) {
                publicNames.add(m.getName());
            }
        }
        check(visible.equals(FACE), "the face is " + visible + ", due is " + FACE);
        for (Method m : face.getDeclaredMethods()) {
            check(Modifier.isPublic(m.getModifiers()) || !publicNames.contains(m.getName()), m.getName() + " has a public name");
        }
        for (Class<?> c : face.getDeclaredClasses()) {
            check(Modifier.isStatic(c.getModifiers()) && !Modifier.isPublic(c.getModifiers())
                    && !Modifier.isProtected(c.getModifiers()), c.getSimpleName() + " is static and not to be seen");
            for (Method m : c.getDeclaredMethods()) {
                check(!publicNames.contains(m.getName()), c.getSimpleName() + "." + m.getName() + " has a public name");
            }
        }
        System.out.println(wrong == 0 ? "the face is as due" : wrong + " faults of the face");
        if (wrong != 0) {
            System.exit(1);
        }
    }
}
