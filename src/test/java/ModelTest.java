import java.util.NoSuchElementException;
import java.util.Random;

/**
 * Puts the same calls to RerouteHouse and to the Model: on every small network
 * and on greater ones of many shapes every question with all its arguments, and
 * runs of calls at random with wrong arguments among them. The seeds are fixed.
 */
public final class ModelTest {
    private static final int THROWN = -99;
    private static final int[] ODD = {Integer.MIN_VALUE, Integer.MIN_VALUE + 1, -32, -2, -1, 12, 13, 24, 25, 31, 32, 33, 40, 41,
        100, 255, 256, 4095, 4096, 1 << 30, Integer.MAX_VALUE};

    private static long asked;
    private static int wrong;
    /** How often each kind of thing was seen: a test that never meets one proves nothing about it. */
    private static final int[] repairs = new int[4];
    private static final int[] fates = new int[3];
    private static int secondLosses;
    private static int rounds;
    private static int partedPairs;
    private static int unsafePairs;
    private static int riskLess;
    private static int arrivedBridges;

    private RerouteHouse house;
    private Model model;
    private final Random random;

    private ModelTest(long seed) {
        random = new Random(seed);
        house = new RerouteHouse();
        model = new Model();
    }

    public static void main(String[] args) {
        for (int n = 2; n <= 4; n++) {
            everyNetworkOf(n);
        }
        for (int seed = 0; seed < 120; seed++) {
            new ModelTest(seed).wholeNetwork();
        }
        for (int seed = 0; seed < 1500; seed++) {
            new ModelTest(1000000 + seed).runAtRandom(512);
        }
        requireSeen();
        System.out.println("ModelTest: " + asked + " answers compared, " + wrong + " wrong");
        if (wrong != 0) {
            System.exit(1);
        }
    }

    private static void requireSeen() {
        int[] seen = {repairs[0], repairs[1], repairs[2], repairs[3], fates[0], fates[1],
            secondLosses, rounds, partedPairs, unsafePairs, riskLess, arrivedBridges};
        for (int i = 0; i < seen.length; i++) {
            if (seen[i] < 20) {
                wrong++;
                System.out.println("ModelTest: case " + i + " was met only " + seen[i] + " times");
            }
        }
    }

    /** Each two NODES without a LINK, with one of COST 1, with one of COST 3: ties, detours and bridges all come up. */
    private static void everyNetworkOf(int n) {
        int networks = 1;
        for (int pair = 0; pair < n * (n - 1) / 2; pair++) {
            networks *= 3;
        }
        for (int code = 0; code < networks; code++) {
            new ModelTest(2000000 + code).smallNetwork(n, code);
        }
    }

    private void smallNetwork(int n, int code) {
        ask("nodes", n, 0, 0);
        int left = code;
        for (int a = 0; a < n; a++) {
            for (int b = a + 1; b < n; b++) {
                if (left % 3 != 0) {
                    int link = ask("link", a, b, left % 3 * 2 - 1);
                    ask("groups", link, random.nextInt(4), 0);
                }
                left /= 3;
            }
        }
        askAboutPairs(n);
        askAboutLinks(n);
        askAboutPackets(n);
        askAboutAll();
    }

    private void wholeNetwork() {
        int n = 2 + random.nextInt(11);
        ask("nodes", n, 0, 0);
        shape(n, random.nextInt(6));
        for (int turn = 0; turn < 3; turn++) {
            askAboutPairs(n);
            askAboutLinks(n);
            askAboutPackets(n);
            askAboutAll();
            change();
        }
    }

    private void shape(int n, int kind) {
        int dearest = random.nextBoolean() ? 1 + random.nextInt(4) : 99;
        if (kind == 0) {
            for (int v = 0; v < n; v++) {
                ask("link", v, (v + 1) % n, 1 + random.nextInt(dearest));
            }
        } else if (kind == 1) {
            for (int v = 1; v < n; v++) {
                ask("link", random.nextInt(v), v, 1 + random.nextInt(dearest));
            }
        } else if (kind == 2) {
            for (int v = 0; v < n; v++) {
                ask("link", v, v + 2, 1 + random.nextInt(dearest));
                ask("link", v, v % 2 == 0 ? v + 1 : v - 1, 1 + random.nextInt(dearest));
            }
        }
        int more = kind < 3 ? random.nextInt(4) : random.nextInt(30);
        for (int i = 0; i < more; i++) {
            ask("link", random.nextInt(n), random.nextInt(n), 1 + random.nextInt(dearest));
        }
        for (int link = 0; link < model.count(1); link++) {
            if (random.nextInt(3) == 0) {
                ask("groups", link, random.nextInt(256) & random.nextInt(256), 0);
            }
        }
    }

    private void change() {
        int links = model.count(1);
        if (links > 0) {
            ask("cost", random.nextInt(links), 1 + random.nextInt(99), 0);
            ask("groups", random.nextInt(links), random.nextInt(256), 0);
        }
    }

    private void askAboutPairs(int n) {
        for (int a = -1; a <= n; a++) {
            for (int b = -1; b <= n; b++) {
                for (String name : new String[] {"between", "far", "next", "alternate", "repair", "cut", "spare"}) {
                    ask(name, a, b, 0);
                }
                for (int what = -1; what <= 4; what++) {
                    ask("ones", a, b, what);
                    ask("space", a, b, what);
                    ask("tunnel", a, b, what);
                }
                for (int i = -1; i <= n; i++) {
                    ask("way", a, b, i);
                }
                note(a, b);
            }
        }
    }

    private void note(int a, int b) {
        int repair = model.repair(a, b);
        if (repair >= 0) {
            repairs[repair]++;
        }
        if (model.far(a, b) > 0 && model.spare(a, b) == Model.NONE) {
            partedPairs++;
        }
        int alternate = model.alternate(a, b);
        if (alternate >= 0 && (model.ones(a, b, 3) >> alternate & 1) == 0 && (model.ones(a, b, 0) & model.ones(a, b, 3)) != 0) {
            riskLess++;
        }
    }

    private void askAboutLinks(int n) {
        int links = model.count(1);
        for (int link = -1; link <= links; link++) {
            for (int what = -1; what <= 6; what++) {
                ask("of", link, what, 0);
            }
            for (int d = -2; d <= n; d++) {
                ask("hit", link, d, 0);
                for (int v = -1; v <= n; v++) {
                    ask("behind", link, d, v);
                    ask("nextBehind", link, d, v);
                    ask("holds", link, d, v);
                }
                for (int i = 0; i < 6; i++) {
                    int set = i == 0 ? -1 : random.nextInt(1 << 14);
                    ask("round", link, d, set);
                    rounds += model.round(link, d, set) != 0 ? 1 : 0;
                }
            }
        }
    }

    private void askAboutPackets(int n) {
        for (int i = 0; i < 6; i++) {
            int what = 1 + i % 3;
            ask("down", what, random.nextInt(what == 1 ? Math.max(1, model.count(1)) : what == 2 ? n : 8), 0);
            for (int a = -1; a <= n; a++) {
                for (int d = -1; d <= n; d++) {
                    askAboutPacket(a, d);
                }
            }
            ask("count", 4, 0, 0);
            ask("covered", 7, 0, 0);
        }
    }

    private void askAboutPacket(int a, int d) {
        for (int what = -1; what <= 4; what++) {
            ask("send", a, d, what);
        }
        int links = model.send(a, d, 1);
        for (int i = -1; i <= links + 1; i++) {
            ask("trace", a, d, i);
        }
        int fate = model.send(a, d, 0);
        if (fate < 0) {
            return;
        }
        fates[fate]++;
        int where = model.send(a, d, 2);
        if (where >= 0 && fate == 1 && links > 0 && model.trace(a, d, links) != where) {
            secondLosses++;
        }
        if (where >= 0 && fate == 0 && model.repair(where, d) == 3) {
            arrivedBridges++;
        }
    }

    private void askAboutAll() {
        for (int what = -1; what <= 8; what++) {
            ask("covered", what, 0, 0);
            ask("count", what, 0, 0);
        }
        ask("centre", 0, 0, 0);
        unsafePairs += model.covered(0) - model.covered(7);
    }

    private static final String[] NAMES = {"link", "link", "link", "link", "link", "cost", "groups", "down", "of", "between",
        "far", "next", "way", "ones", "alternate", "space", "tunnel", "repair", "send", "trace", "behind", "nextBehind", "hit",
        "holds", "round", "covered", "cut", "spare", "centre", "count"};

    private void runAtRandom(int calls) {
        ask("nodes", 2 + random.nextInt(12), 0, 0);
        for (int i = 1; i < calls; i++) {
            String name = random.nextInt(150) == 0 ? "nodes" : NAMES[random.nextInt(NAMES.length)];
            ask(name, number(), number(), number());
        }
    }

    private int number() {
        int kind = random.nextInt(40);
        return kind == 0 ? ODD[random.nextInt(ODD.length)] : kind < 4 ? random.nextInt(260) : random.nextInt(kind < 20 ? 13 : 5);
    }

    private int ask(String name, int x, int y, int z) {
        int want = ofModel(name, x, y, z);
        int got = ofHouse(name, x, y, z);
        asked++;
        if (want != got) {
            wrong++;
            if (wrong < 50) {
                System.out.println(name + "(" + x + ", " + y + ", " + z + ") answered " + got + ", due is " + want);
            }
        }
        return want;
    }

    private int ofHouse(String name, int x, int y, int z) {
        switch (name) {
            case "nodes": return house.nodes(x);
            case "link": return house.link(x, y, z);
            case "cost": return house.cost(x, y);
            case "groups": return house.groups(x, y);
            case "down": return house.down(x, y) ? 1 : 0;
            case "of": return house.of(x, y);
            case "between": return house.between(x, y);
            case "far": return house.far(x, y);
            case "next": return house.next(x, y);
            case "way":
                try {
                    return house.way(x, y, z);
                } catch (NoSuchElementException none) {
                    return THROWN;
                }
            case "ones": return house.ones(x, y, z);
            case "alternate": return house.alternate(x, y);
            case "space": return house.space(x, y, z);
            case "tunnel": return house.tunnel(x, y, z);
            case "repair": return house.repair(x, y);
            case "send": return house.send(x, y, z);
            case "trace": return house.trace(x, y, z);
            case "behind": return house.behind(x, y, z);
            case "nextBehind": return house.nextBehind(x, y, z);
            case "hit": return house.hit(x, y);
            case "holds": return house.holds(x, y, z);
            case "round": return house.round(x, y, z);
            case "covered": return house.covered(x);
            case "cut": return house.cut(x, y);
            case "spare": return house.spare(x, y);
            case "centre": return house.centre();
            case "count": return house.count(x);
            default: throw new IllegalArgumentException(name);
        }
    }

    private int ofModel(String name, int x, int y, int z) {
        switch (name) {
            case "nodes": return model.nodes(x);
            case "link": return model.link(x, y, z);
            case "cost": return model.cost(x, y);
            case "groups": return model.groups(x, y);
            case "down": return model.down(x, y) ? 1 : 0;
            case "of": return model.of(x, y);
            case "between": return model.between(x, y);
            case "far": return model.far(x, y);
            case "next": return model.next(x, y);
            case "way":
                try {
                    return model.way(x, y, z);
                } catch (NoSuchElementException none) {
                    return THROWN;
                }
            case "ones": return model.ones(x, y, z);
            case "alternate": return model.alternate(x, y);
            case "space": return model.space(x, y, z);
            case "tunnel": return model.tunnel(x, y, z);
            case "repair": return model.repair(x, y);
            case "send": return model.send(x, y, z);
            case "trace": return model.trace(x, y, z);
            case "behind": return model.behind(x, y, z);
            case "nextBehind": return model.nextBehind(x, y, z);
            case "hit": return model.hit(x, y);
            case "holds": return model.holds(x, y, z);
            case "round": return model.round(x, y, z);
            case "covered": return model.covered(x);
            case "cut": return model.cut(x, y);
            case "spare": return model.spare(x, y);
            case "centre": return model.centre();
            case "count": return model.count(x);
            default: throw new IllegalArgumentException(name);
        }
    }
}
