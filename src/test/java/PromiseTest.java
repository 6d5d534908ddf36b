import java.util.NoSuchElementException;

/**
 * Promise by promise, answers worked out by hand from the document: ordinary
 * calls, the edges that it names, wrong arguments.
 */
public final class PromiseTest {
    private static final int NONE = RerouteHouse.NONE;
    private static final int THROWN = -99;

    private static int promise;
    private static int checks;
    private static int wrong;

    public static void main(String[] args) {
        newObject();
        nodes();
        link();
        cost();
        groups();
        down();
        of();
        between();
        far();
        next();
        way();
        ones();
        alternate();
        space();
        tunnel();
        repair();
        send();
        sendOnRepairs();
        trace();
        behind();
        nextBehind();
        hit();
        holds();
        round();
        covered();
        cut();
        spare();
        centre();
        count();
        System.out.println("PromiseTest: " + checks + " answers, " + wrong + " wrong");
        if (wrong != 0) {
            System.exit(1);
        }
    }

    private static void due(int want, int got) {
        checks++;
        if (want != got) {
            wrong++;
            int line = new Throwable().getStackTrace()[1].getLineNumber();
            System.out.println("promise " + promise + ", line " + line + ": answered " + got + ", due is " + want);
        }
    }

    private static void due(boolean want, boolean got) {
        checks++;
        if (want != got) {
            wrong++;
            int line = new Throwable().getStackTrace()[1].getLineNumber();
            System.out.println("promise " + promise + ", line " + line + ": answered " + got + ", due is " + want);
        }
    }

    private static int wayOf(RerouteHouse x, int a, int d, int i) {
        try {
            return x.way(a, d, i);
        } catch (NoSuchElementException none) {
            return THROWN;
        }
    }

    /** LINKS in threes: two NODES and a COST. */
    private static RerouteHouse net(int nodes, int... links) {
        RerouteHouse x = new RerouteHouse();
        x.nodes(nodes);
        for (int i = 0; i + 2 < links.length; i += 3) {
            x.link(links[i], links[i + 1], links[i + 2]);
        }
        return x;
    }

    private static RerouteHouse ring(int nodes, int cost) {
        RerouteHouse x = new RerouteHouse();
        x.nodes(nodes);
        for (int v = 0; v < nodes; v++) {
            x.link(v, (v + 1) % nodes, cost);
        }
        return x;
    }

    /** 0-1 of 1, 1-2 of 1, 2-3 of 10, 3-0 of 1: without 0-1 only a BRIDGE helps. */
    private static RerouteHouse bridged() {
        return net(4, 0, 1, 1, 1, 2, 1, 2, 3, 10, 3, 0, 1);
    }

    /** 0 sends by 1 for 5; 2, 3, 4 lie beside 1: 2 the nearest, 3 and 4 alike. */
    private static RerouteHouse fan() {
        return net(6, 0, 1, 1, 1, 5, 1, 0, 2, 1, 2, 5, 2, 0, 3, 2, 3, 5, 2, 0, 4, 2, 4, 5, 2);
    }

    private static void newObject() {
        promise = 1;
        RerouteHouse x = new RerouteHouse();
        due(2, x.count(0));
        due(0, x.count(1));
        due(0, x.count(2));
        due(0, x.count(3));
        due(0, x.count(4));
        due(0, x.count(5));
        due(NONE, x.far(0, 1));
        due(NONE, x.far(0, 2));
        due(0, x.link(0, 1, 7));
        due(7, x.far(1, 0));
        due(0, new RerouteHouse().count(1));
    }

    private static void nodes() {
        promise = 2;
        RerouteHouse x = new RerouteHouse();
        due(NONE, x.nodes(1));
        due(NONE, x.nodes(0));
        due(NONE, x.nodes(-1));
        due(NONE, x.nodes(13));
        due(NONE, x.nodes(Integer.MIN_VALUE));
        due(NONE, x.nodes(Integer.MAX_VALUE));
        due(2, x.count(0));
        due(0, x.nodes(12));
        due(12, x.count(0));
        due(0, x.link(10, 11, 1));
        due(1, x.link(9, 11, 1));
        due(true, x.down(1, 1));
        due(NONE, x.nodes(13));
        due(2, x.count(1));
        due(1, x.count(2));
        due(2, x.nodes(12));
        due(0, x.count(1));
        due(0, x.count(2));
        due(0, x.count(3));
        due(NONE, x.between(10, 11));
        due(NONE, x.far(10, 11));
        due(0, x.nodes(2));
        due(NONE, x.link(0, 2, 1));
        due(0, x.link(0, 1, 1));
        x.groups(0, 9);
        due(1, x.nodes(2));
        due(0, x.link(1, 0, 1));
        due(0, x.of(0, 3));
        due(1, x.of(0, 0));
    }

    private static void link() {
        promise = 3;
        RerouteHouse x = net(12);
        due(NONE, x.link(0, 0, 5));
        due(NONE, x.link(-1, 0, 5));
        due(NONE, x.link(0, -1, 5));
        due(NONE, x.link(0, 12, 5));
        due(NONE, x.link(12, 0, 5));
        due(NONE, x.link(0, 1, 0));
        due(NONE, x.link(0, 1, -5));
        due(NONE, x.link(0, 1, 100));
        due(0, x.count(1));
        due(0, x.link(0, 1, 99));
        due(1, x.link(11, 1, 1));
        due(NONE, x.link(1, 0, 5));
        due(NONE, x.link(1, 11, 5));
        due(99, x.far(0, 1));
        due(100, x.far(0, 11));
        int told = 2;
        for (int a = 2; a < 12 && told < 24; a++) {
            for (int b = a + 1; b < 12 && told < 24; b++) {
                due(told, x.link(a, b, 3));
                told++;
            }
        }
        due(24, x.count(1));
        due(NONE, x.link(0, 2, 3));
        due(24, x.count(1));
        due(NONE, x.between(0, 2));
    }

    private static void cost() {
        promise = 4;
        RerouteHouse x = ring(3, 5);
        due(10, x.cost(0, 99) + x.cost(1, 3));
        due(99, x.cost(0, 1));
        due(1, x.far(0, 1));
        due(1, x.cost(0, 40));
        due(8, x.far(0, 1));
        due(2, x.next(0, 1));
        due(NONE, x.cost(0, 0));
        due(NONE, x.cost(0, 100));
        due(NONE, x.cost(3, 5));
        due(NONE, x.cost(-1, 5));
        due(40, x.of(0, 2));
    }

    private static void groups() {
        promise = 5;
        RerouteHouse x = ring(3, 5);
        due(0, x.groups(1, 255));
        due(255, x.groups(1, 6));
        due(6, x.of(1, 3));
        due(0, x.of(0, 3));
        due(NONE, x.groups(1, 256));
        due(NONE, x.groups(1, -1));
        due(NONE, x.groups(3, 1));
        due(NONE, x.groups(-1, 1));
        due(6, x.groups(1, 0));
        due(0, x.groups(1, 0));
    }

    private static void down() {
        promise = 6;
        RerouteHouse x = ring(4, 1);
        due(true, x.down(1, 3));
        due(false, x.down(1, 4));
        due(false, x.down(1, -1));
        due(false, x.down(2, 4));
        due(false, x.down(2, -1));
        due(false, x.down(3, 8));
        due(false, x.down(3, -1));
        due(false, x.down(4, 0));
        due(false, x.down(-1, 0));
        due(1, x.count(2));
        due(3, x.count(3));
        due(true, x.down(2, 3));
        due(2, x.count(4));
        x.link(3, 1, 9);
        due(3, x.count(4));
        due(true, x.down(3, 7));
        due(0, x.count(4));
        x.groups(0, 128);
        x.groups(2, 255);
        x.groups(3, 127);
        due(2, x.count(4));
        due(1, x.of(2, 4));
        due(0, x.of(3, 4));
        x.groups(2, 1);
        due(1, x.count(4));
        due(true, x.down(0, -77));
        due(0, x.count(2));
        due(0, x.count(3));
        due(0, x.count(4));
        x.down(1, 2);
        due(1, x.far(2, 3));
    }

    private static void of() {
        promise = 7;
        RerouteHouse x = net(4, 2, 0, 5, 3, 1, 6, 2, 3, 7);
        x.groups(1, 17);
        x.down(1, 1);
        due(2, x.of(0, 0));
        due(0, x.of(0, 1));
        due(5, x.of(0, 2));
        due(0, x.of(0, 3));
        due(0, x.of(0, 4));
        due(3, x.of(1, 0));
        due(1, x.of(1, 1));
        due(17, x.of(1, 3));
        due(1, x.of(1, 4));
        due(6, x.of(0, 5));
        due(6, x.of(1, 5));
        due(8, x.of(2, 5));
        due(NONE, x.of(0, 6));
        due(NONE, x.of(0, -1));
        due(NONE, x.of(3, 0));
        due(NONE, x.of(-1, 0));
        x.down(2, 2);
        due(1, x.of(0, 4));
        due(0, x.of(1, 4));
        due(1, x.of(2, 4));
        RerouteHouse unused = net(3, 0, 1, 1, 1, 2, 1, 0, 2, 3);
        due(4, unused.of(0, 5));
        due(4, unused.of(1, 5));
        due(0, unused.of(2, 5));
        // of equal ones the lowest NEXT: 1 from 0 to 2, but 0 itself from 2 to 0
        unused.cost(2, 2);
        due(3, unused.of(0, 5));
        due(1, unused.of(2, 5));
    }

    private static void between() {
        promise = 8;
        RerouteHouse x = net(4, 2, 0, 5, 3, 1, 6);
        due(0, x.between(0, 2));
        due(0, x.between(2, 0));
        due(1, x.between(1, 3));
        due(NONE, x.between(0, 1));
        due(NONE, x.between(0, 0));
        due(NONE, x.between(-1, 0));
        due(NONE, x.between(0, 4));
        due(NONE, x.between(4, 0));
        due(NONE, x.between(0, Integer.MIN_VALUE));
    }

    private static void far() {
        promise = 9;
        RerouteHouse x = net(5, 0, 1, 9, 0, 2, 2, 2, 3, 3, 3, 1, 3);
        due(8, x.far(0, 1));
        due(8, x.far(1, 0));
        due(5, x.far(0, 3));
        due(0, x.far(3, 3));
        due(0, x.far(4, 4));
        due(NONE, x.far(0, 4));
        due(NONE, x.far(0, 5));
        due(NONE, x.far(5, 5));
        due(NONE, x.far(-1, 0));
        due(NONE, x.far(-1, -1));
        x.down(2, 2);
        due(8, x.far(0, 1));
        RerouteHouse line = net(12);
        for (int v = 0; v < 11; v++) {
            line.link(v, v + 1, 99);
        }
        due(1089, line.far(0, 11));
        due(1089, line.far(11, 0));
    }

    private static void next() {
        promise = 10;
        RerouteHouse x = net(5, 0, 2, 1, 2, 3, 1, 0, 1, 1, 1, 3, 1);
        due(1, x.next(0, 3));
        due(1, x.next(3, 0));
        due(0, x.next(1, 2));
        due(0, x.next(2, 1));
        due(2, x.next(0, 2));
        due(NONE, x.next(0, 0));
        due(NONE, x.next(0, 4));
        due(NONE, x.next(4, 0));
        due(NONE, x.next(0, 5));
        due(NONE, x.next(5, 0));
        due(NONE, x.next(-1, 0));
        x.down(1, 2);
        due(1, x.next(0, 3));
        x.cost(2, 2);
        due(2, x.next(0, 3));
        due(2, x.next(3, 0));
    }

    private static void way() {
        promise = 11;
        RerouteHouse x = net(5, 0, 1, 1, 1, 2, 1, 2, 3, 1);
        for (int i = 0; i < 4; i++) {
            due(i, wayOf(x, 0, 3, i));
            due(3 - i, wayOf(x, 3, 0, i));
        }
        due(THROWN, wayOf(x, 0, 3, 4));
        due(THROWN, wayOf(x, 0, 3, Integer.MAX_VALUE));
        due(THROWN, wayOf(x, 0, 3, -1));
        due(THROWN, wayOf(x, 0, 3, Integer.MIN_VALUE));
        due(THROWN, wayOf(x, 0, 4, 0));
        due(THROWN, wayOf(x, 0, 5, 0));
        due(THROWN, wayOf(x, 5, 0, 0));
        due(THROWN, wayOf(x, 5, 5, 0));
        due(THROWN, wayOf(x, -1, 0, 0));
        due(2, wayOf(x, 2, 2, 0));
        due(THROWN, wayOf(x, 2, 2, 1));
        due(4, wayOf(x, 4, 4, 0));
    }

    private static void ones() {
        promise = 12;
        RerouteHouse x = fan();
        due(0b011100, x.ones(0, 5, 0));
        due(0, x.ones(0, 5, 1));
        due(0b011100, x.ones(0, 5, 2));
        due(0b011100, x.ones(0, 5, 3));
        x.groups(0, 0b110);
        x.groups(2, 0b010);
        x.groups(4, 0b001);
        x.groups(6, 0b100);
        due(0b001000, x.ones(0, 5, 3));
        due(0, x.ones(0, 5, 4));
        due(0, x.ones(0, 5, -1));
        due(0, x.ones(0, 0, 3));
        due(0, x.ones(0, 6, 3));
        due(0, x.ones(6, 0, 3));
        due(0, x.ones(-1, 0, 3));
        // FAR of 2 and 1 is 2, no less than over 0 (1 and 1)
        due(0, x.ones(0, 1, 0));
        // e is d: none is NODE-SAFE
        due(0, x.ones(0, 1, 2));
        due(0, net(3, 0, 1, 1).ones(0, 2, 3));
        RerouteHouse triangle = ring(3, 1);
        due(0b100, triangle.ones(0, 1, 0));
        due(0, triangle.ones(0, 1, 1));
        due(0, triangle.ones(0, 1, 2));
        due(0b100, triangle.ones(0, 1, 3));
        // the two ways alike: 2 is nearer to 3 than 0 is
        due(0b0100, net(4, 0, 1, 1, 1, 3, 1, 0, 2, 1, 2, 3, 1).ones(0, 3, 1));
        // 2 is LOOP-FREE, but goes by 1 itself
        RerouteHouse over = net(4, 0, 1, 1, 1, 3, 1, 0, 2, 5, 2, 1, 1);
        due(0b0100, over.ones(0, 3, 0));
        due(0, over.ones(0, 3, 2));
        // NODE-SAFE asks nothing of LOOP-FREE: 2 comes to 3 only by 0, but not by 1 more cheaply
        RerouteHouse leaf = net(4, 0, 1, 2, 1, 3, 2, 0, 2, 1, 0, 3, 4);
        due(1, leaf.next(0, 3));
        due(0b1000, leaf.ones(0, 3, 0));
        due(0b1000, leaf.ones(0, 3, 1));
        due(0b1000, leaf.ones(0, 3, 2));
    }

    private static void alternate() {
        promise = 13;
        RerouteHouse x = fan();
        due(2, x.alternate(0, 5));
        // RISK-SAFE goes ahead of what is cheaper, the lowest of equal ones
        x.groups(0, 4);
        x.groups(2, 4);
        due(3, x.alternate(0, 5));
        x.groups(4, 4);
        due(4, x.alternate(0, 5));
        x.groups(6, 4);
        due(2, x.alternate(0, 5));
        due(NONE, x.alternate(0, 1));
        x.cost(2, 4);
        due(3, x.alternate(0, 5));
        due(2, x.alternate(0, 1));
        due(NONE, x.alternate(0, 0));
        due(NONE, x.alternate(0, 6));
        due(NONE, x.alternate(6, 0));
        due(NONE, x.alternate(-1, 0));
        due(NONE, net(3, 0, 1, 1).alternate(0, 2));
        // NODE-SAFE goes ahead of RISK-SAFE: 2 goes by 1, 3 does not but shares the risk
        RerouteHouse y = net(5, 0, 1, 1, 1, 4, 1, 0, 2, 1, 2, 1, 1, 0, 3, 9, 3, 4, 9);
        y.groups(0, 1);
        y.groups(4, 1);
        due(0b01100, y.ones(0, 4, 0));
        due(0b01000, y.ones(0, 4, 2));
        due(0b00100, y.ones(0, 4, 3));
        due(3, y.alternate(0, 4));
        // d itself may be the ALTERNATE
        due(2, net(3, 0, 1, 1, 1, 2, 1, 0, 2, 3).alternate(0, 2));
    }

    private static void space() {
        promise = 14;
        RerouteHouse x = ring(5, 2);
        due(0b11000, x.space(0, 1, 0));
        due(0b11100, x.space(0, 1, 1));
        due(0b01110, x.space(0, 1, 2));
        due(0, x.space(0, 1, 3));
        due(0, x.space(0, 1, -1));
        due(0, x.space(0, 0, 1));
        due(0, x.space(0, 5, 1));
        due(0, x.space(5, 0, 1));
        due(0, x.space(-1, 0, 1));
        RerouteHouse parted = net(4, 0, 1, 5, 2, 3, 1);
        due(0, parted.space(0, 1, 0));
        due(0, parted.space(0, 1, 1));
        due(0b0010, parted.space(0, 1, 2));
        due(0, parted.space(0, 2, 2));
        // for 2 it is the same LINK, but from 4, too, one comes to 2 without it
        due(0b11100, x.space(0, 2, 1));
        due(0b11110, x.space(0, 2, 2));
        // over e and the LINK backwards is no reach: n 2 comes to 0's other side only by 1, 0
        RerouteHouse tail = net(4, 0, 1, 1, 1, 2, 1, 0, 2, 9, 0, 3, 1);
        due(0b1000, tail.space(0, 1, 0));
        due(0b1110, tail.space(0, 1, 1));
    }

    private static void tunnel() {
        promise = 15;
        RerouteHouse x = ring(5, 2);
        due(2, x.tunnel(0, 1, 0));
        due(4, x.tunnel(0, 1, 1));
        due(3, x.tunnel(0, 1, 2));
        due(NONE, x.tunnel(0, 1, 3));
        due(NONE, x.tunnel(0, 1, -1));
        due(NONE, x.tunnel(0, 0, 0));
        due(NONE, x.tunnel(0, 5, 0));
        due(NONE, x.tunnel(5, 0, 0));
        RerouteHouse y = bridged();
        due(NONE, y.tunnel(0, 1, 0));
        due(3, y.tunnel(0, 1, 1));
        due(2, y.tunnel(0, 1, 2));
        RerouteHouse one = net(3, 0, 1, 5);
        due(NONE, one.tunnel(0, 1, 0));
        due(NONE, one.tunnel(0, 1, 1));
        due(NONE, one.tunnel(0, 1, 2));
        due(NONE, one.tunnel(0, 2, 0));
        // two BRIDGES of the same price, 4-2 and 3-2: the lowest p
        RerouteHouse two = net(5, 0, 1, 1, 1, 2, 1, 0, 4, 1, 4, 2, 9, 0, 3, 1, 3, 2, 9);
        due(3, two.tunnel(0, 1, 1));
        due(2, two.tunnel(0, 1, 2));
        // MEETING is the nearest to s, of equal ones the lowest: 4 and 5 lie alike beside the LINK
        RerouteHouse pair = net(6, 0, 1, 1, 0, 2, 1, 2, 4, 1, 4, 1, 1, 0, 3, 1, 3, 5, 1, 5, 1, 1);
        due(0b110000, pair.space(0, 1, 1) & pair.space(0, 1, 2));
        due(4, pair.tunnel(0, 1, 0));
        pair.cost(2, 2);
        pair.cost(3, 2);
        due(0b110000, pair.space(0, 1, 1) & pair.space(0, 1, 2));
        due(5, pair.tunnel(0, 1, 0));
    }

    private static void repair() {
        promise = 16;
        due(1, ring(3, 1).repair(0, 1));
        due(2, ring(4, 1).repair(0, 1));
        due(1, ring(4, 1).repair(0, 2));
        due(3, bridged().repair(0, 1));
        RerouteHouse one = net(3, 0, 1, 5);
        due(0, one.repair(0, 1));
        due(NONE, one.repair(0, 2));
        due(NONE, one.repair(0, 0));
        due(NONE, one.repair(0, 3));
        due(NONE, one.repair(3, 0));
        due(NONE, one.repair(-1, 0));
        one.down(1, 0);
        due(0, one.repair(0, 1));
    }

    private static void send() {
        promise = 17;
        RerouteHouse x = net(4, 0, 1, 2, 1, 2, 3);
        due(0, x.send(0, 2, 0));
        due(2, x.send(0, 2, 1));
        due(NONE, x.send(0, 2, 2));
        due(5, x.send(0, 2, 3));
        due(NONE, x.send(0, 2, 4));
        due(NONE, x.send(0, 2, -1));
        due(NONE, x.send(0, 0, 0));
        due(NONE, x.send(0, 4, 0));
        due(NONE, x.send(4, 0, 0));
        due(NONE, x.send(-1, 0, 0));
        due(1, x.send(0, 3, 0));
        due(0, x.send(0, 3, 1));
        due(NONE, x.send(0, 3, 2));
        due(0, x.send(0, 3, 3));
        x.down(1, 1);
        due(1, x.send(0, 2, 0));
        due(1, x.send(0, 2, 1));
        due(1, x.send(0, 2, 2));
        due(2, x.send(0, 2, 3));
        due(0, x.send(0, 1, 0));
        x.down(2, 1);
        due(1, x.send(0, 2, 0));
        due(0, x.send(0, 2, 1));
        due(0, x.send(0, 2, 2));
        due(NONE, x.send(0, 1, 0));
        due(NONE, x.send(1, 0, 0));
        x.down(1, 1);
        due(0, x.send(1, 0, 0));
        x.down(3, 1);
        due(0, x.send(0, 1, 0));
    }

    private static void sendOnRepairs() {
        promise = 17;
        RerouteHouse alternate = fan();
        alternate.down(2, 1);
        due(0, alternate.send(0, 5, 0));
        due(2, alternate.send(0, 5, 1));
        due(0, alternate.send(0, 5, 2));
        due(3, alternate.send(0, 5, 3));
        alternate.groups(0, 1);
        alternate.groups(2, 1);
        alternate.groups(4, 1);
        alternate.groups(6, 1);
        alternate.down(3, 0);
        due(1, alternate.send(0, 5, 0));
        due(0, alternate.send(0, 5, 1));
        due(0, alternate.send(0, 5, 2));
        RerouteHouse meeting = ring(4, 1);
        meeting.down(1, 0);
        due(0, meeting.send(0, 1, 0));
        due(3, meeting.send(0, 1, 1));
        due(0, meeting.send(0, 1, 2));
        meeting.groups(0, 1);
        meeting.groups(1, 1);
        meeting.down(3, 0);
        // REPAIRED at 0 up to 2, where a second LINK is DOWN
        due(1, meeting.send(0, 1, 0));
        due(2, meeting.send(0, 1, 1));
        due(0, meeting.send(0, 1, 2));
        RerouteHouse bridge = bridged();
        bridge.down(1, 0);
        due(0, bridge.send(0, 1, 0));
        due(12, bridge.send(0, 1, 3));
        bridge.groups(0, 2);
        bridge.groups(2, 2);
        bridge.down(3, 1);
        due(1, bridge.send(0, 1, 0));
        due(1, bridge.send(0, 1, 1));
        due(0, bridge.send(0, 1, 2));
        // a LINK on the way to the MEETING is DOWN, too: LOST there, not REPAIRED again
        RerouteHouse way = ring(5, 2);
        way.groups(0, 8);
        way.groups(3, 8);
        way.down(3, 3);
        due(1, way.send(0, 1, 0));
        due(1, way.send(0, 1, 1));
        due(4, way.trace(0, 1, 1));
        due(0, way.send(0, 1, 2));
    }

    private static void trace() {
        promise = 18;
        RerouteHouse x = bridged();
        x.down(1, 0);
        int[] stops = {0, 3, 2, 1};
        for (int i = 0; i < 4; i++) {
            due(stops[i], x.trace(0, 1, i));
        }
        due(NONE, x.trace(0, 1, 4));
        due(NONE, x.trace(0, 1, -1));
        due(NONE, x.trace(0, 1, Integer.MAX_VALUE));
        due(NONE, x.trace(0, 1, Integer.MIN_VALUE));
        due(NONE, x.trace(0, 0, 0));
        due(NONE, x.trace(0, 4, 0));
        due(NONE, x.trace(4, 0, 0));
        x.down(2, 1);
        due(NONE, x.trace(0, 1, 0));
        due(NONE, x.trace(1, 0, 0));
        RerouteHouse parted = net(3, 0, 1, 1);
        due(0, parted.trace(0, 2, 0));
        due(NONE, parted.trace(0, 2, 1));
        // the MEETING 2 is REACHED by 4, not of 0: first to 4
        RerouteHouse ring = ring(5, 2);
        ring.down(1, 0);
        int[] round = {0, 4, 3, 2, 1, NONE};
        for (int i = 0; i < round.length; i++) {
            due(round[i], ring.trace(0, 1, i));
        }
        // from 2 it goes by 1, where it is REPAIRED
        int[] back = {2, 1, 2, 3, 4, 0, NONE};
        for (int i = 0; i < back.length; i++) {
            due(back[i], ring.trace(2, 0, i));
        }
    }

    private static void behind() {
        promise = 19;
        RerouteHouse x = ring(5, 2);
        due(8, x.behind(0, 0, 1));
        due(8, x.behind(0, 1, 0));
        due(2, x.behind(1, 0, 1));
        due(0, x.behind(0, 3, 3));
        due(NONE, x.behind(5, 0, 1));
        due(NONE, x.behind(-1, 0, 1));
        due(NONE, x.behind(0, 5, 1));
        due(NONE, x.behind(0, 0, 5));
        due(NONE, x.behind(0, -1, 0));
        due(NONE, net(2, 0, 1, 3).behind(0, 0, 1));
        x.down(1, 3);
        due(8, x.behind(0, 0, 1));
    }

    private static void nextBehind() {
        promise = 20;
        RerouteHouse x = ring(5, 2);
        due(4, x.nextBehind(0, 0, 1));
        due(3, x.nextBehind(0, 2, 0));
        due(1, x.nextBehind(1, 0, 1));
        due(NONE, x.nextBehind(0, 3, 3));
        due(NONE, x.nextBehind(5, 0, 1));
        due(NONE, x.nextBehind(-1, 0, 1));
        due(NONE, x.nextBehind(0, 5, 1));
        due(NONE, x.nextBehind(0, 0, 5));
        due(NONE, net(2, 0, 1, 3).nextBehind(0, 0, 1));
    }

    private static void hit() {
        promise = 21;
        RerouteHouse x = ring(5, 2);
        due(0b00110, x.hit(0, 0));
        due(0b10001, x.hit(0, 1));
        due(0b00001, x.hit(0, 2));
        due(0, x.hit(0, 3));
        due(0b00010, x.hit(0, 4));
        due(0, x.hit(5, 0));
        due(0, x.hit(-1, 0));
        due(0, x.hit(0, 5));
        due(0, x.hit(0, -1));
    }

    private static void holds() {
        promise = 22;
        RerouteHouse x = net(5, 0, 1, 1, 1, 2, 1, 2, 3, 1, 1, 4, 1);
        due(2, x.holds(0, 0, 1));
        due(1, x.holds(0, 0, 2));
        due(0, x.holds(0, 0, 3));
        due(0, x.holds(0, 0, 4));
        due(NONE, x.holds(0, 0, 0));
        due(0, x.holds(0, 3, 0));
        due(NONE, x.holds(0, 3, 1));
        due(2, x.holds(0, NONE, 1));
        due(0, x.holds(0, NONE, 0));
        due(0, x.holds(2, NONE, 3));
        due(2, x.holds(2, NONE, 2));
        due(NONE, net(3, 0, 1, 1, 1, 2, 1, 0, 2, 9).holds(2, NONE, 0));
        due(NONE, x.holds(0, -2, 1));
        due(NONE, x.holds(0, 5, 1));
        due(NONE, x.holds(0, 0, 5));
        due(NONE, x.holds(0, 0, -1));
        due(NONE, x.holds(0, NONE, 5));
        due(NONE, x.holds(4, 0, 1));
        due(NONE, x.holds(-1, NONE, 1));
    }

    private static void round() {
        promise = 23;
        RerouteHouse x = ring(5, 2);
        due(0, x.round(0, 0, 0));
        due(0b00110, x.round(0, 0, 0b00010));
        due(0, x.round(0, 0, 0b00100));
        due(0, x.round(0, 0, 0b11111));
        due(0, x.round(0, 0, -1));
        due(0b00110, x.round(0, 0, 0b00010 | 1 << 5 | 1 << 31));
        due(0, x.round(5, 0, 2));
        due(0, x.round(-1, 0, 2));
        due(0, x.round(0, 5, 2));
        due(0, x.round(0, -1, 2));
        // whoever comes into the round goes round as well: 3 sends by 2
        RerouteHouse y = net(5, 0, 1, 1, 1, 2, 1, 2, 3, 1, 3, 4, 9, 4, 0, 9);
        due(0b01110, y.round(0, 0, 0b00010));
        due(0b01110, y.round(0, 0, 0b00110));
        due(0, y.round(0, 0, 0b01110));
        due(0b01100, y.round(0, 0, 0b00100));
        // where there is no NEXT BEHIND, it ends
        due(0, net(3, 0, 1, 1, 1, 2, 1).round(0, 0, 0b010));
    }

    private static void covered() {
        promise = 24;
        RerouteHouse x = net(4, 0, 1, 1, 1, 3, 1, 0, 2, 1, 2, 3, 1);
        x.groups(0, 1);
        x.groups(2, 1);
        int[] square = {12, 4, 8, 0, 0, 4, 3, 12};
        for (int what = 0; what < square.length; what++) {
            due(square[what], x.covered(what));
        }
        due(NONE, x.covered(8));
        due(NONE, x.covered(-1));
        // what is DOWN now does not matter for SAFE
        x.down(2, 0);
        due(12, x.covered(7));
        due(2, x.count(2));
        due(0, x.count(3));
        RerouteHouse parted = net(4, 0, 1, 1, 2, 3, 1);
        int[] alone = {4, 0, 0, 0, 4, 0, 0, 0};
        for (int what = 0; what < alone.length; what++) {
            due(alone[what], parted.covered(what));
        }
        RerouteHouse triangle = ring(3, 1);
        int[] three = {6, 6, 0, 0, 0, 0, 6, 6};
        for (int what = 0; what < three.length; what++) {
            due(three[what], triangle.covered(what));
        }
        RerouteHouse y = bridged();
        due(12, y.covered(1) + y.covered(2) + y.covered(3) + y.covered(4));
        due(true, y.covered(3) > 0);
        due(0, new RerouteHouse().covered(0));
        due(0, new RerouteHouse().covered(7));
    }

    private static void cut() {
        promise = 25;
        RerouteHouse x = ring(5, 2);
        due(2, x.cut(0, 3));
        due(2, x.cut(3, 0));
        x.link(0, 3, 99);
        due(3, x.cut(0, 3));
        due(2, x.cut(1, 4));
        x.down(1, 5);
        due(3, x.cut(0, 3));
        due(NONE, x.cut(0, 0));
        due(NONE, x.cut(0, 5));
        due(NONE, x.cut(5, 0));
        due(NONE, x.cut(-1, 0));
        due(0, net(3, 0, 1, 1).cut(0, 2));
        due(1, net(3, 0, 1, 1).cut(0, 1));
        // the first way found takes 1-2; it must be given back for the second one
        due(2, net(6, 0, 1, 1, 1, 2, 1, 2, 5, 1, 0, 3, 1, 3, 2, 1, 1, 4, 1, 4, 5, 1).cut(0, 5));
        RerouteHouse full = net(7);
        for (int a = 0; a < 7; a++) {
            for (int b = a + 1; b < 7; b++) {
                full.link(a, b, 1);
            }
        }
        due(6, full.cut(2, 6));
    }

    private static void spare() {
        promise = 26;
        RerouteHouse x = ring(5, 2);
        due(6, x.spare(0, 1));
        due(2, x.spare(0, 2));
        due(2, x.spare(2, 0));
        due(NONE, x.spare(0, 0));
        due(NONE, x.spare(0, 5));
        due(NONE, x.spare(5, 0));
        due(NONE, x.spare(-1, 0));
        due(NONE, net(3, 0, 1, 1).spare(0, 1));
        due(NONE, net(3, 0, 1, 1).spare(0, 2));
        due(NONE, net(4, 0, 1, 1, 1, 2, 1, 2, 0, 1, 2, 3, 1).spare(0, 3));
        due(0, net(4, 0, 1, 1, 1, 3, 1, 0, 2, 1, 2, 3, 1).spare(0, 3));
    }

    private static void centre() {
        promise = 27;
        due(2, net(5, 0, 1, 1, 1, 2, 1, 2, 3, 1, 3, 4, 1).centre());
        due(1, net(4, 0, 1, 1, 1, 2, 1, 2, 3, 1).centre());
        due(0, ring(5, 2).centre());
        due(3, net(4, 3, 0, 1, 3, 1, 1, 3, 2, 1).centre());
        due(NONE, net(3, 0, 1, 1).centre());
        due(NONE, new RerouteHouse().centre());
        RerouteHouse x = ring(3, 1);
        x.down(2, 0);
        due(0, x.centre());
    }

    private static void count() {
        promise = 28;
        RerouteHouse x = net(4, 2, 0, 5, 3, 1, 6, 2, 3, 7);
        due(4, x.count(0));
        due(3, x.count(1));
        due(0, x.count(2));
        due(0, x.count(3));
        due(0, x.count(4));
        due(18, x.count(5));
        due(NONE, x.count(6));
        due(NONE, x.count(-1));
        x.down(1, 2);
        due(1, x.count(2));
        due(2, x.count(3));
        due(1, x.count(4));
        x.down(2, 3);
        due(2, x.count(2));
        due(3, x.count(3));
        due(2, x.count(4));
        x.groups(1, 32);
        x.down(3, 5);
        due(3, x.count(2));
        due(5, x.count(3));
        due(1, x.count(4));
        x.cost(1, 99);
        due(111, x.count(5));
        due(-1, RerouteHouse.NONE);
    }
}
