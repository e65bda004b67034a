import java.io.IOException;
import java.lang.reflect.InvocationTargetException;
import java.lang.reflect.Method;
import java.lang.reflect.Modifier;
import java.nio.file.Files;
import java.nio.file.Path;
import java.util.Arrays;
import java.util.HashMap;
import java.util.List;
import java.util.Map;
import java.util.Set;
import java.util.TreeSet;
import java.util.regex.Matcher;
import java.util.regex.Pattern;

/** The example in README.md answers what stands there, and leaves out no method; it is run from the project's root. */
public final class OmegaNetsReadme {
    private static final Pattern MADE = Pattern.compile("OmegaNets net = new OmegaNets\\((\\d+), (\\d+)\\); .*");
    private static final Pattern CALL = Pattern.compile("net\\.(\\w+)\\(([-\\d, ]*)\\);\\s+// ([-\\w]+): .*");

    private static int wrong = 0;

    private static void wrong(String told) {
        wrong++;
        System.out.println("README.md: " + told);
    }

    private static List<String> example() throws IOException {
        List<String> lines = Files.readAllLines(Path.of("README.md"));
        int first = lines.indexOf("```java") + 1;
        List<String> rest = lines.subList(first, lines.size());
        return rest.subList(0, rest.indexOf("```"));
    }

    private static Map<String, Method> face() {
        Map<String, Method> methods = new HashMap<>();
        for (Method method : OmegaNets.class.getDeclaredMethods()) {
            if (Modifier.isPublic(method.getModifiers())) {
                methods.put(method.getName(), method);
            }
        }
        return methods;
    }

    private static Object[] numbers(String list) {
        if (list.isEmpty()) {
            return new Object[0];
        }
        return Arrays.stream(list.split(", ")).map(Integer::valueOf).toArray();
    }

    private static String answer(OmegaNets net, Method method, Object[] arguments) throws IllegalAccessException {
        try {
            return String.valueOf(method.invoke(net, arguments));
        } catch (InvocationTargetException e) {
            return e.getCause().getClass().getSimpleName();
        }
    }

    private static String due(String told) {
        return told.equals("OMEGA") ? "-1" : told.equals("NONE") ? "-2" : told;
    }

    public static void main(String[] args) throws IOException, IllegalAccessException {
        Map<String, Method> face = face();
        Set<String> left = new TreeSet<>(face.keySet());
        OmegaNets net = null;
        int calls = 0;
        for (String line : example()) {
            Matcher made = MADE.matcher(line);
            Matcher call = CALL.matcher(line);
            if (made.matches()) {
                net = new OmegaNets(Integer.parseInt(made.group(1)), Integer.parseInt(made.group(2)));
            } else if (call.matches() && face.containsKey(call.group(1))) {
                calls++;
                left.remove(call.group(1));
                String got = answer(net, face.get(call.group(1)), numbers(call.group(2)));
                if (!got.equals(due(call.group(3)))) {
                    wrong(line + " -- answered " + got);
                }
            } else if (!line.isEmpty()) {
                wrong("not a call with its answer: " + line);
            }
        }
        if (!left.isEmpty()) {
            wrong("the example leaves out " + left);
        }
        System.out.println(calls + " calls of the example, " + wrong + " wrong");
        System.exit(wrong == 0 ? 0 : 1);
    }
}
