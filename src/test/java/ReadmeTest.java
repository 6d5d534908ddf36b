import java.io.IOException;
import java.lang.reflect.InvocationTargetException;
import java.lang.reflect.Method;
import java.lang.reflect.Modifier;
import java.nio.file.Files;
import java.nio.file.Path;
import java.util.Arrays;
import java.util.NoSuchElementException;
import java.util.Set;
import java.util.TreeSet;
import java.util.regex.Matcher;
import java.util.regex.Pattern;

/** README.md tells what calls answer: here it is asked, so that the page and the class cannot part. */
public final class ReadmeTest {
    private static final int MOST_CALLS = 512;
    private static final Pattern MADE = Pattern.compile("RerouteHouse x = new RerouteHouse\\(\\);");
    private static final Pattern CALL = Pattern.compile("x\\.(\\w+)\\(([^)]*)\\); +// (-?\\w+)(: .+)?");

    private static RerouteHouse house;
    private static int calls;
    private static int wrong;

    public static void main(String[] args) throws IOException, IllegalAccessException {
        Set<String> missing = face();
        boolean inside = false;
        for (String line : Files.readAllLines(Path.of("README.md"))) {
            if (line.startsWith("```")) {
                inside = line.equals("```java");
            } else if (inside) {
                ask(line, missing);
            }
        }
        if (!missing.isEmpty()) {
            tell("no call is shown of " + missing);
        }
        if (calls > MOST_CALLS) {
            tell("the page has more calls than an object serves");
        }
        System.out.println("ReadmeTest: " + calls + " calls, " + wrong + " wrong");
        if (wrong != 0) {
            System.exit(1);
        }
    }

    private static void tell(String what) {
        wrong++;
        System.out.println("ReadmeTest: " + what);
    }

    private static Set<String> face() {
        Set<String> names = new TreeSet<>();
        for (Method method : RerouteHouse.class.getDeclaredMethods()) {
            if (Modifier.isPublic(method.getModifiers())) {
                names.add(method.getName());
            }
        }
        return names;
    }

    private static void ask(String line, Set<String> missing) throws IllegalAccessException {
        Matcher call = CALL.matcher(line);
        if (MADE.matcher(line).matches()) {
            house = new RerouteHouse();
        } else if (house != null && call.matches()) {
            calls++;
            missing.remove(call.group(1));
            String got = answer(call.group(1), call.group(2));
            if (!got.equals(call.group(3))) {
                tell(line + " .. answered " + got);
            }
        } else {
            tell("no call with its answer: " + line);
        }
    }

    /** As the page writes it: NONE by its name, an exception by its class. */
    private static String answer(String name, String written) throws IllegalAccessException {
        Object[] numbers = Arrays.stream(written.split(", ")).filter(n -> !n.isEmpty()).map(ReadmeTest::number).toArray();
        for (Method method : RerouteHouse.class.getDeclaredMethods()) {
            boolean fits = method.getName().equals(name) && method.getParameterCount() == numbers.length;
            if (fits && Modifier.isPublic(method.getModifiers())) {
                return text(method, numbers);
            }
        }
        return "no such call";
    }

    private static String text(Method method, Object[] numbers) throws IllegalAccessException {
        try {
            Object got = method.invoke(house, numbers);
            return got.equals(RerouteHouse.NONE) ? "NONE" : got.toString();
        } catch (InvocationTargetException thrown) {
            boolean due = thrown.getCause() instanceof NoSuchElementException;
            return due ? thrown.getCause().getClass().getSimpleName() : "threw " + thrown.getCause();
        }
    }

    private static Object number(String written) {
        if (written.equals("NONE")) {
            return RerouteHouse.NONE;
        }
        return written.startsWith("0b") ? Integer.parseInt(written.substring(2), 2) : Integer.parseInt(written);
    }
}
