import com.sun.management.ThreadMXBean;
import java.io.PrintWriter;
import java.io.StringWriter;
import java.lang.management.ManagementFactory;
import java.lang.reflect.Constructor;
import java.lang.reflect.Field;
import java.lang.reflect.Method;
import java.lang.reflect.Modifier;
import java.nio.file.Files;
import java.nio.file.Path;
import java.util.HashMap;
import java.util.List;
import java.util.Map;
import java.util.NoSuchElementException;
import java.util.Set;
import java.util.TreeSet;
import java.util.regex.Matcher;
import java.util.regex.Pattern;
import java.util.spi.ToolProvider;

/** Rules of LANGUAGE.md that a program can look at: the face, the source's words, how deep calls go, what calls make. */
public final class RulesTest {
    private static final Set<String> FACE = Set.of(
            "int nodes(int)", "int link(int,int,int)", "int cost(int,int)", "int groups(int,int)", "boolean down(int,int)",
            "int of(int,int)", "int between(int,int)", "int far(int,int)", "int next(int,int)",
            "int way(int,int,int) throws java.util.NoSuchElementException", "int ones(int,int,int)", "int alternate(int,int)",
            "int space(int,int,int)", "int tunnel(int,int,int)", "int repair(int,int)", "int send(int,int,int)",
            "int trace(int,int,int)", "int behind(int,int,int)", "int nextBehind(int,int,int)", "int hit(int,int)",
            "int holds(int,int,int)", "int round(int,int,int)", "int covered(int)", "int cut(int,int)", "int spare(int,int)",
            "int centre()", "int count(int)");

    private static int wrong;

    public static void main(String[] args) throws Exception {
        Path source = Path.of(args.length > 0 ? args[0] : "src/main/java/RerouteHouse.java");
        face();
        words(Files.readAllLines(source));
        depth();
        room();
        System.out.println("RulesTest: " + wrong + " wrong");
        if (wrong != 0) {
            System.exit(1);
        }
    }

    private static void require(boolean fine, String what) {
        if (!fine) {
            wrong++;
            System.out.println("RulesTest: " + what);
        }
    }

    /** Rules 1, 5 and 11. */
    private static void face() {
        Class<?> house = RerouteHouse.class;
        require(Modifier.isFinal(house.getModifiers()) && Modifier.isPublic(house.getModifiers()), "the class is public and final");
        Set<String> found = new TreeSet<>();
        Set<String> names = new TreeSet<>();
        for (Method method : house.getDeclaredMethods()) {
            if (!Modifier.isPrivate(method.getModifiers())) {
                found.add(method.toGenericString().replace("public ", "").replace("RerouteHouse.", ""));
                names.add(method.getName());
            }
        }
        require(found.equals(FACE), "the methods of the face are " + found);
        for (Method method : house.getDeclaredMethods()) {
            boolean clash = Modifier.isPrivate(method.getModifiers()) && names.contains(method.getName());
            require(!clash, "a private method is called " + method.getName());
        }
        require(house.getDeclaredConstructors().length == 1, "there is one constructor");
        for (Constructor<?> made : house.getDeclaredConstructors()) {
            require(Modifier.isPublic(made.getModifiers()) && made.getParameterCount() == 0, "the constructor is public");
        }
        fields(house);
        for (Class<?> inner : house.getDeclaredClasses()) {
            require(Modifier.isStatic(inner.getModifiers()) && Modifier.isPrivate(inner.getModifiers()), inner + " is private and static");
            fields(inner);
        }
        require(house.getDeclaredClasses().length <= 11, "there are at most twelve classes");
    }

    private static void fields(Class<?> type) {
        int own = 0;
        for (Field field : type.getDeclaredFields()) {
            int how = field.getModifiers();
            require(!Modifier.isStatic(how) || Modifier.isFinal(how) && field.getType() == int.class, field + " is a constant");
            boolean none = field.getName().equals("NONE") && Modifier.isPublic(how);
            require(type != RerouteHouse.class || Modifier.isPrivate(how) || none, field + " is private");
            own += Modifier.isStatic(how) ? 0 : 1;
        }
        require(own <= 20, type + " has at most twenty fields");
    }

    /** Rules 2, 4, 6, 10 and 11, as far as single lines show them. */
    private static void words(List<String> lines) {
        Pattern ruled = Pattern.compile("->|::|\\b(catch|finally|synchronized|assert|instanceof|package|float|double|native"
                + "|System\\.(?!arraycopy)|Random|Thread|lang|getClass|hashCode|toString|equals|var|yield|do)\\b");
        int since = 0;
        for (int i = 0; i < lines.size(); i++) {
            String line = lines.get(i);
            String code = line.replaceFirst("(//|/\\*\\*|^ *\\*).*", "");
            require(!ruled.matcher(code).find(), "line " + (i + 1) + " is outside the rules: " + line);
            require(line.length() <= 120, "line " + (i + 1) + " is long");
            require(line.chars().allMatch(c -> c >= 32 && c < 127), "line " + (i + 1) + " has an odd sign");
            if (code.startsWith("import ")) {
                require(code.matches("import java\\.util\\.(Arrays|NoSuchElementException);"), code);
            }
            if (code.matches(" {4}( {4})?[a-zA-Z].*\\) (throws \\w+ )?\\{")) {
                since = i;
                require(code.split(",").length <= 7, "line " + (i + 1) + ": at most seven parameters");
            }
            if (code.matches(" {4}( {4})?\\}") && since > 0) {
                require(i - since <= 60, "the method at line " + (since + 1) + " is long");
                since = 0;
            }
        }
    }

    /** Rule 11: no call goes deeper than eight, the call of the face counted; and nothing calls itself. */
    private static void depth() {
        Map<String, Set<String>> calls = new HashMap<>();
        ToolProvider javap = ToolProvider.findFirst("javap").orElse(null);
        if (javap == null) {
            System.out.println("RulesTest: no javap here, the depth of calls is not looked at");
            return;
        }
        readCalls(javap, "RerouteHouse", calls);
        for (Class<?> inner : RerouteHouse.class.getDeclaredClasses()) {
            readCalls(javap, inner.getName(), calls);
        }
        require(calls.size() > 60, "only " + calls.size() + " methods were found by javap");
        for (String method : calls.keySet()) {
            int deep = deepest(method, calls, 0);
            require(deep <= 8, method + " goes " + deep + " deep");
        }
    }

    private static void readCalls(ToolProvider javap, String type, Map<String, Set<String>> calls) {
        StringWriter text = new StringWriter();
        PrintWriter to = new PrintWriter(text);
        javap.run(to, to, "-c", "-p", "-s", "-cp", System.getProperty("java.class.path"), type);
        Pattern head = Pattern.compile("^  \\S.*?([\\w$]+)\\(.*;$");
        Pattern call = Pattern.compile("invoke\\w+ +#.*Method (.+)$");
        String name = "";
        String method = "";
        for (String line : text.toString().split("\n")) {
            Matcher header = head.matcher(line);
            Matcher called = call.matcher(line);
            if (header.find()) {
                name = header.group(1).equals(type) ? "\"<init>\"" : header.group(1);
            } else if (line.startsWith("    descriptor: ") && !name.isEmpty()) {
                method = type + "." + name + ":" + line.substring(16).trim();
                calls.put(method, new TreeSet<>());
                name = "";
            } else if (called.find()) {
                String other = called.group(1).replace('/', '.');
                calls.get(method).add(other.substring(0, other.indexOf(':')).contains(".") ? called.group(1) : type + "." + called.group(1));
            }
        }
    }

    private static int deepest(String method, Map<String, Set<String>> calls, int above) {
        int deep = 0;
        if (above > 30) {
            return 1000;
        }
        for (String other : calls.getOrDefault(method, Set.of())) {
            boolean plain = other.contains("java/lang/Object");
            deep = Math.max(deep, plain ? 0 : deepest(other, calls, above + 1));
        }
        return deep + 1;
    }

    /** The page's room: calls make nothing at all, an object no more than some two hundred rows and a few KB. */
    private static void room() {
        ThreadMXBean bean = (ThreadMXBean) ManagementFactory.getThreadMXBean();
        long self = Thread.currentThread().getId();
        RerouteHouse x = full();
        allCalls(x);
        long before = bean.getThreadAllocatedBytes(self);
        long nothing = bean.getThreadAllocatedBytes(self) - before;
        before = bean.getThreadAllocatedBytes(self);
        allCalls(x);
        long made = bean.getThreadAllocatedBytes(self) - before - nothing;
        require(made == 0, "calls made " + made + " bytes");
        before = bean.getThreadAllocatedBytes(self);
        x = new RerouteHouse();
        made = bean.getThreadAllocatedBytes(self) - before - nothing;
        require(made < 6000 && x.count(0) == 2, "an object takes " + made + " bytes");
        try {
            x.way(0, 1, 0);
            require(false, "way threw nothing");
        } catch (NoSuchElementException due) {
            require(due.getClass() == NoSuchElementException.class, "way threw " + due);
        }
    }

    private static RerouteHouse full() {
        RerouteHouse x = new RerouteHouse();
        x.nodes(12);
        for (int v = 0; v < 12; v++) {
            x.link(v, (v + 1) % 12, 1 + v % 3);
        }
        for (int v = 0; v < 12; v++) {
            x.link(v, (v + 5) % 12, 9);
        }
        return x;
    }

    private static void allCalls(RerouteHouse x) {
        for (int i = 0; i < 8; i++) {
            x.down(i % 4, i);
            x.of(i, i % 6);
            x.of(i, 5);
            x.between(i, i + 1);
            x.far(i, 11);
            x.next(i, 11);
            x.way(i, 11, 1);
            x.ones(i, 11, i % 4);
            x.alternate(i, 11);
            x.space(i, 11, i % 3);
            x.tunnel(i, 11, i % 3);
            x.repair(i, 11);
            x.send(i, 11, i % 4);
            x.trace(i, 11, 2);
            x.behind(i, i, 11);
            x.nextBehind(i, i, 11);
            x.hit(i, 11);
            x.holds(i, -1, i);
            x.round(i, 11, 1 << i);
            x.covered(i);
            x.cut(i, 11);
            x.spare(i, 11);
            x.centre();
            x.count(i);
            x.groups(i, i);
            x.cost(i, i + 1);
        }
        x.nodes(12);
        for (int v = 0; v < 12; v++) {
            x.link(v, (v + 1) % 12, 1);
            x.link(v, (v + 5) % 12, 9);
        }
    }
}
