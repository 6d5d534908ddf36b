import java.lang.reflect.InvocationTargetException;
import java.lang.reflect.Method;
import java.lang.reflect.Modifier;
import java.util.Arrays;
import java.util.Comparator;
import java.util.NoSuchElementException;

/**
 * What the tests of the document's boundary sentences share. A test is a static
 * method without parameters whose name begins with "promise" and two digits;
 * it fails by itself, and its name is told.
 */
final class Edges {
    static final int NONE = RerouteHouse.NONE;
    static final int THROWN = -99;

    private static int checks;
    private static String faults = "";

    private Edges() {
    }

    /** Runs all tests of the class; each promise of the range must have one at least. */
    static void run(Class<?> tests, int from, int to) throws IllegalAccessException {
        Method[] methods = tests.getDeclaredMethods();
        Arrays.sort(methods, Comparator.comparing(Method::getName));
        int[] testsOf = new int[29];
        int ran = 0;
        int failed = 0;
        for (Method method : methods) {
            if (method.getName().matches("promise\\d\\d_\\w+") && Modifier.isStatic(method.getModifiers())) {
                testsOf[Integer.parseInt(method.getName().substring(7, 9))]++;
                ran++;
                failed += passes(method) ? 0 : 1;
            }
        }
        StringBuilder told = new StringBuilder();
        for (int promise = from; promise <= to; promise++) {
            told.append(promise == from ? "" : ", ").append(promise).append(": ").append(testsOf[promise]);
            if (testsOf[promise] == 0) {
                failed++;
                System.out.println("FAILED promise " + promise + " has no test");
            }
        }
        System.out.println(tests.getName() + ": " + ran + " tests (by promise " + told + "), " + failed + " failed");
        if (failed != 0) {
            System.exit(1);
        }
    }

    private static boolean passes(Method test) throws IllegalAccessException {
        checks = 0;
        faults = "";
        try {
            test.setAccessible(true);
            test.invoke(null);
        } catch (InvocationTargetException thrown) {
            faults += " threw " + thrown.getCause();
        }
        if (checks == 0) {
            faults += " nothing was looked at";
        }
        if (!faults.isEmpty()) {
            System.out.println("FAILED " + test.getName() + ":" + faults);
        }
        return faults.isEmpty();
    }

    static void due(Object want, Object got) {
        checks++;
        if (!want.equals(got)) {
            String where = "";
            for (StackTraceElement frame : new Throwable().getStackTrace()) {
                if (where.isEmpty() && frame.getMethodName().startsWith("promise")) {
                    where = "line " + frame.getLineNumber();
                }
            }
            faults += " [" + where + ": " + got + ", due is " + want + "]";
        }
    }

    /** Numbers that are not allowed where least to most are: next to them, far off, and alike in their low bits. */
    static int[] outside(int least, int most) {
        int[] tries = {
            least - 1, least - 2, most + 1, most + 2, -least - 5,
            least + 32, least - 32, least + 64, least + 256, least - 256, least + 65536, least - 65536,
            most + 32, most - 32 * 8, most + 256, most + 65536, 1 << 24, 1 << 30,
            Integer.MIN_VALUE, Integer.MIN_VALUE + least, Integer.MIN_VALUE + most, Integer.MAX_VALUE - 1, Integer.MAX_VALUE,
        };
        return Arrays.stream(tries).filter(n -> n < least || n > most).distinct().toArray();
    }

    static int wayOf(RerouteHouse x, int a, int d, int i) {
        try {
            return x.way(a, d, i);
        } catch (NoSuchElementException none) {
            return none.getClass() == NoSuchElementException.class ? THROWN : THROWN - 1;
        }
    }

    /** LINKS in threes: two NODES and a COST. */
    static RerouteHouse net(int nodes, int... links) {
        RerouteHouse x = new RerouteHouse();
        x.nodes(nodes);
        for (int i = 0; i + 2 < links.length; i += 3) {
            x.link(links[i], links[i + 1], links[i + 2]);
        }
        return x;
    }

    /** LINK v between v and the NODE after it, the last one between the last and 0. */
    static RerouteHouse ring(int nodes, int cost) {
        RerouteHouse x = line(nodes, cost);
        x.link(nodes - 1, 0, cost);
        return x;
    }

    /** LINK v between v and v + 1. */
    static RerouteHouse line(int nodes, int cost) {
        RerouteHouse x = net(nodes);
        for (int v = 0; v + 1 < nodes; v++) {
            x.link(v, v + 1, cost);
        }
        return x;
    }

    /** Twelve NODES, 24 LINKS: a ring and, from 12 on, a LINK over each two steps of it. */
    static RerouteHouse full() {
        RerouteHouse x = ring(12, 5);
        for (int v = 0; v < 12; v++) {
            x.link(v, (v + 2) % 12, 20);
        }
        return x;
    }

    /** Something of everything: four NODES, five LINKS, GROUPS, NODE 3 DOWN. */
    static RerouteHouse house() {
        RerouteHouse x = net(4, 0, 1, 1, 1, 2, 2, 2, 3, 3, 3, 0, 4, 0, 2, 9);
        x.groups(0, 129);
        x.groups(2, 6);
        x.down(2, 3);
        return x;
    }

    /** All that an object holds, by its answers; few enough for a small network to ask it twice in 512 calls. */
    static String state(RerouteHouse x) {
        StringBuilder text = new StringBuilder();
        for (int what = 0; what < 6; what++) {
            text.append(x.count(what)).append(' ');
        }
        for (int link = 0; link < x.count(1); link++) {
            for (int what = 0; what < 6; what++) {
                text.append(x.of(link, what)).append(' ');
            }
        }
        for (int a = 0; a < x.count(0); a++) {
            for (int b = 0; b <= a; b++) {
                text.append(x.far(a, b)).append(' ').append(x.between(a, b)).append(' ').append(x.next(a, b)).append(' ');
            }
        }
        return text.toString();
    }
}
