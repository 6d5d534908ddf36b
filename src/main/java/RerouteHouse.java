import java.util.Arrays;
import java.util.NoSuchElementException;

/** Fast reroute planner; the words in capitals are those of the document's terms. */
public final class RerouteHouse {
    public static final int NONE = -1;

    private static final int FEWEST_NODES = 2;
    private static final int MOST_NODES = 12;
    private static final int MOST_LINKS = 24;
    private static final int MOST_COST = 99;
    private static final int GROUP_COUNT = 8;
    private static final int ALL_GROUPS = 255;
    private static final int MOST_STEPS = 40;

    /** Above every sum of COSTS, yet so small that a few of them together stay an int. */
    private static final int NO_WAY = 1000000;

    private static final int NOTHING_DOWN = 0;
    private static final int LINK_DOWN = 1;
    private static final int NODE_DOWN = 2;
    private static final int GROUP_DOWN = 3;

    private static final int NO_REPAIR = 0;
    private static final int BY_ALTERNATE = 1;
    private static final int BY_MEETING = 2;
    private static final int BY_BRIDGE = 3;

    private static final int LOOP_FREE = 0;
    private static final int NEARER = 1;
    private static final int NODE_SAFE = 2;
    private static final int RISK_SAFE = 3;

    private static final int UNDERWAY = -1;
    private static final int ARRIVED = 0;
    private static final int LOST = 1;
    private static final int ROUND = 2;

    private final Network net;
    private final Outage outage;
    private final Plan plan;
    private final Packet packet;
    private final Aftermath aftermath;
    private final Flow flow;

    public RerouteHouse() {
        net = new Network();
        outage = new Outage();
        plan = new Plan();
        packet = new Packet();
        aftermath = new Aftermath();
        flow = new Flow();
    }

    public int nodes(int n) {
        if (n < FEWEST_NODES || n > MOST_NODES) {
            return NONE;
        }
        int before = net.linkCount;
        net.clear(n);
        outage.set(NOTHING_DOWN, 0);
        return before;
    }

    public int link(int a, int b, int cost) {
        if (!net.areTwo(a, b) || !isCost(cost)) {
            return NONE;
        }
        if (net.linkAt(a, b) != NONE || net.linkCount >= MOST_LINKS) {
            return NONE;
        }
        return net.add(a, b, cost);
    }

    public int cost(int link, int cost) {
        if (!net.isLink(link) || !isCost(cost)) {
            return NONE;
        }
        int before = net.costs[link];
        net.setCost(link, cost);
        return before;
    }

    public int groups(int link, int set) {
        if (!net.isLink(link) || set < 0 || set > ALL_GROUPS) {
            return NONE;
        }
        int before = net.risks[link];
        net.risks[link] = set;
        return before;
    }

    public boolean down(int what, int which) {
        if (!canBeDown(what, which)) {
            return false;
        }
        outage.set(what, what == NOTHING_DOWN ? 0 : which);
        return true;
    }

    public int of(int link, int what) {
        if (!net.isLink(link)) {
            return NONE;
        }
        switch (what) {
            case 0:
                return net.firsts[link];
            case 1:
                return net.seconds[link];
            case 2:
                return net.costs[link];
            case 3:
                return net.risks[link];
            case 4:
                return outage.takes(net, link) ? 1 : 0;
            case 5:
                net.settle();
                return aftermath.waysOver(net, link);
            default:
                return NONE;
        }
    }

    public int between(int a, int b) {
        return net.linkAt(a, b);
    }

    public int far(int a, int b) {
        if (!net.isNode(a) || !net.isNode(b)) {
            return NONE;
        }
        net.settle();
        return orNone(net.fars[a][b]);
    }

    public int next(int a, int d) {
        net.settle();
        return net.hop(a, d);
    }

    public int way(int a, int d, int i) throws NoSuchElementException {
        net.settle();
        int at = net.nodeOfWay(a, d, i);
        if (at == NONE) {
            throw new NoSuchElementException();
        }
        return at;
    }

    public int ones(int s, int d, int what) {
        net.settle();
        return plan.aim(net, s, d) ? plan.onesThatAre(what) : 0;
    }

    public int alternate(int s, int d) {
        net.settle();
        return plan.aim(net, s, d) ? plan.bestOther(net) : NONE;
    }

    public int space(int s, int d, int what) {
        net.settle();
        if (!plan.aim(net, s, d)) {
            return 0;
        }
        switch (what) {
            case 0:
                return plan.reachedOfItself(net);
            case 1:
                return plan.reach(net);
            case 2:
                return plan.coming(net);
            default:
                return 0;
        }
    }

    public int tunnel(int s, int d, int what) {
        net.settle();
        if (!plan.aim(net, s, d)) {
            return NONE;
        }
        int reach = plan.reach(net);
        int coming = plan.coming(net);
        switch (what) {
            case 0:
                return plan.nearestOf(net, reach & coming);
            case 1:
                return plan.findBridge(net, reach, coming) ? plan.bridgeFrom : NONE;
            case 2:
                return plan.findBridge(net, reach, coming) ? plan.bridgeTo : NONE;
            default:
                return NONE;
        }
    }

    public int repair(int s, int d) {
        net.settle();
        return plan.aim(net, s, d) ? plan.choose(net) : NONE;
    }

    public int send(int a, int d, int what) {
        if (!canSend(a, d)) {
            return NONE;
        }
        net.settle();
        packet.travel(net, plan, outage.brokenLinks(net), a, d);
        switch (what) {
            case 0:
                return packet.fate;
            case 1:
                return packet.steps;
            case 2:
                return packet.repairedAt;
            case 3:
                return packet.paid;
            default:
                return NONE;
        }
    }

    public int trace(int a, int d, int i) {
        if (!canSend(a, d)) {
            return NONE;
        }
        net.settle();
        packet.travel(net, plan, outage.brokenLinks(net), a, d);
        return packet.stop(i);
    }

    public int behind(int link, int a, int b) {
        if (!net.isLink(link) || !net.isNode(a) || !net.isNode(b)) {
            return NONE;
        }
        return orNone(aftermath.farWithout(net, link, a, b));
    }

    public int nextBehind(int link, int a, int d) {
        if (!net.isLink(link) || !net.isNode(a) || !net.isNode(d)) {
            return NONE;
        }
        return aftermath.hopWithout(net, link, a, d);
    }

    public int hit(int link, int d) {
        if (!net.isLink(link) || !net.isNode(d)) {
            return 0;
        }
        net.settle();
        return aftermath.hitNodes(net, link, d);
    }

    public int holds(int link, int d, int v) {
        if (!net.isLink(link) || !net.isNode(v)) {
            return NONE;
        }
        net.settle();
        if (d == NONE) {
            return aftermath.longestDelay(net, link, v);
        }
        return net.isNode(d) ? aftermath.delay(net, link, d, v) : NONE;
    }

    public int round(int link, int d, int set) {
        if (!net.isLink(link) || !net.isNode(d)) {
            return 0;
        }
        net.settle();
        return aftermath.circling(net, link, d, set);
    }

    public int covered(int what) {
        if (what < 0 || what > 7) {
            return NONE;
        }
        net.settle();
        int pairs = 0;
        for (int d = 0; d < net.size; d++) {
            pairs += what == 7 ? safeSenders(d) : sendersOfKind(d, what);
        }
        return pairs;
    }

    public int cut(int a, int b) {
        return net.areTwo(a, b) ? flow.leastCut(net, a, b) : NONE;
    }

    public int spare(int a, int b) {
        if (!net.areTwo(a, b)) {
            return NONE;
        }
        net.settle();
        return orNone(aftermath.worstDetour(net, a, b));
    }

    public int centre() {
        net.settle();
        int best = NONE;
        int least = NO_WAY;
        for (int v = 0; v < net.size; v++) {
            int farthest = net.farthestFrom(v);
            if (farthest >= NO_WAY) {
                return NONE;
            }
            if (farthest < least) {
                least = farthest;
                best = v;
            }
        }
        return best;
    }

    public int count(int what) {
        switch (what) {
            case 0:
                return net.size;
            case 1:
                return net.linkCount;
            case 2:
                return outage.what;
            case 3:
                return outage.which;
            case 4:
                return Integer.bitCount(outage.brokenLinks(net));
            case 5:
                return net.costsTogether();
            default:
                return NONE;
        }
    }

    private static boolean isCost(int cost) {
        return cost >= 1 && cost <= MOST_COST;
    }

    private static int orNone(int distance) {
        return distance >= NO_WAY ? NONE : distance;
    }

    private static boolean has(int bits, int one) {
        return (bits >> one & 1) == 1;
    }

    private boolean canBeDown(int what, int which) {
        switch (what) {
            case NOTHING_DOWN:
                return true;
            case LINK_DOWN:
                return net.isLink(which);
            case NODE_DOWN:
                return net.isNode(which);
            case GROUP_DOWN:
                return which >= 0 && which < GROUP_COUNT;
            default:
                return false;
        }
    }

    private boolean canSend(int a, int d) {
        return net.areTwo(a, d) && !outage.isAtNode(a) && !outage.isAtNode(d);
    }

    private int sendersOfKind(int d, int what) {
        int senders = 0;
        for (int s = 0; s < net.size; s++) {
            if (plan.aim(net, s, d) && isOfKind(what)) {
                senders++;
            }
        }
        return senders;
    }

    private boolean isOfKind(int what) {
        switch (what) {
            case 0:
                return true;
            case 1:
            case 2:
            case 3:
                return plan.choose(net) == what;
            case 4:
                return plan.choose(net) == NO_REPAIR;
            case 5:
                return plan.isBestOther(net, NODE_SAFE);
            case 6:
                return plan.isBestOther(net, RISK_SAFE);
            default:
                return false;
        }
    }

    /**
     * Up to the LINK that is DOWN a PACKET keeps to its WAY, so a pair is SAFE
     * if each NODE of its WAY gets over the loss of its own LINK (40 LINKS are
     * more than a WAY, a REPAIR's way and another WAY have together).
     */
    private int safeSenders(int d) {
        int sure = 0;
        for (int s = 0; s < net.size; s++) {
            int link = net.linkAt(s, net.hop(s, d));
            if (link != NONE) {
                packet.travel(net, plan, 1 << link, s, d);
                sure |= packet.fate == ARRIVED ? 1 << s : 0;
            }
        }
        int senders = 0;
        for (int s = 0; s < net.size; s++) {
            if (s != d && net.isWayWithin(s, d, sure)) {
                senders++;
            }
        }
        return senders;
    }

    /** NODES and LINKS; FAR and NEXT, as without anything DOWN, hold once settle has been called. */
    private static final class Network {
        int size;
        int linkCount;
        final int[] firsts = new int[MOST_LINKS];
        final int[] seconds = new int[MOST_LINKS];
        final int[] costs = new int[MOST_LINKS];
        final int[] risks = new int[MOST_LINKS];
        final int[][] fars = new int[MOST_NODES][MOST_NODES];
        private final int[][] hops = new int[MOST_NODES][MOST_NODES];
        private final int[][] joins = new int[MOST_NODES][MOST_NODES];
        private boolean stale;

        Network() {
            clear(FEWEST_NODES);
        }

        void clear(int n) {
            size = n;
            linkCount = 0;
            for (int v = 0; v < MOST_NODES; v++) {
                Arrays.fill(joins[v], NONE);
            }
            stale = true;
        }

        boolean isNode(int v) {
            return v >= 0 && v < size;
        }

        boolean areTwo(int a, int b) {
            return isNode(a) && isNode(b) && a != b;
        }

        boolean isLink(int link) {
            return link >= 0 && link < linkCount;
        }

        int add(int a, int b, int cost) {
            int link = linkCount;
            firsts[link] = a;
            seconds[link] = b;
            costs[link] = cost;
            risks[link] = 0;
            joins[a][b] = link;
            joins[b][a] = link;
            linkCount++;
            stale = true;
            return link;
        }

        void setCost(int link, int cost) {
            costs[link] = cost;
            stale = true;
        }

        int linkAt(int a, int b) {
            if (a < 0 || a >= size || b < 0 || b >= size) {
                return NONE;
            }
            return joins[a][b];
        }

        int costAt(int a, int b) {
            int link = linkAt(a, b);
            return link == NONE ? NO_WAY : costs[link];
        }

        int costsTogether() {
            int sum = 0;
            for (int link = 0; link < linkCount; link++) {
                sum += costs[link];
            }
            return sum;
        }

        int farthestFrom(int v) {
            int most = 0;
            for (int x = 0; x < size; x++) {
                most = Math.max(most, fars[v][x]);
            }
            return most;
        }

        int hop(int a, int d) {
            return isNode(a) && isNode(d) ? hops[a][d] : NONE;
        }

        int nodeOfWay(int a, int d, int i) {
            if (i < 0 || i >= size || !isNode(a) || !isNode(d) || fars[a][d] >= NO_WAY) {
                return NONE;
            }
            int at = a;
            for (int step = 0; step < i && at != NONE; step++) {
                at = hop(at, d);
            }
            return at;
        }

        /** Whether there is a WAY from a to d whose NODES, but for d, are all in the set. */
        boolean isWayWithin(int a, int d, int set) {
            int at = a;
            for (int step = 0; step < size && at != d; step++) {
                if (at == NONE || !has(set, at)) {
                    return false;
                }
                at = hop(at, d);
            }
            return at == d;
        }

        /** A network is told LINK by LINK, so FAR and NEXT wait until somebody asks. */
        void settle() {
            if (!stale) {
                return;
            }
            stale = false;
            for (int d = 0; d < size; d++) {
                measure(fars[d], d, NONE);
                for (int v = 0; v < size; v++) {
                    hops[v][d] = hopBy(fars[d], v, NONE);
                }
            }
        }

        /** FAR of all NODES and d, without one LINK (NONE: with all). */
        void measure(int[] row, int d, int without) {
            Arrays.fill(row, NO_WAY);
            row[d] = 0;
            boolean changed = true;
            for (int turn = 0; turn < size && changed; turn++) {
                changed = false;
                for (int link = 0; link < linkCount; link++) {
                    if (link != without && shorten(row, link)) {
                        changed = true;
                    }
                }
            }
        }

        private boolean shorten(int[] row, int link) {
            int a = firsts[link];
            int b = seconds[link];
            if (row[a] + costs[link] < row[b]) {
                row[b] = row[a] + costs[link];
                return true;
            }
            if (row[b] + costs[link] < row[a]) {
                row[a] = row[b] + costs[link];
                return true;
            }
            return false;
        }

        /** NEXT of v by a row that has been measured without the same LINK. */
        int hopBy(int[] row, int v, int without) {
            if (row[v] >= NO_WAY) {
                return NONE;
            }
            for (int n = 0; n < size; n++) {
                int link = joins[v][n];
                if (link != NONE && link != without && costs[link] + row[n] == row[v]) {
                    return n;
                }
            }
            return NONE;
        }
    }

    /** What is DOWN. */
    private static final class Outage {
        int what;
        int which;

        void set(int newWhat, int newWhich) {
            what = newWhat;
            which = newWhich;
        }

        boolean isAtNode(int v) {
            return what == NODE_DOWN && which == v;
        }

        /** Looked at anew each time: LINKS and GROUPS may be told after DOWN was. */
        boolean takes(Network net, int link) {
            switch (what) {
                case LINK_DOWN:
                    return link == which;
                case NODE_DOWN:
                    return net.firsts[link] == which || net.seconds[link] == which;
                case GROUP_DOWN:
                    return has(net.risks[link], which);
                default:
                    return false;
            }
        }

        int brokenLinks(Network net) {
            int bits = 0;
            for (int link = 0; link < net.linkCount; link++) {
                if (takes(net, link)) {
                    bits |= 1 << link;
                }
            }
            return bits;
        }
    }

    /** What a NODE s has prepared for d; all but aim is asked only once aim has answered true. */
    private static final class Plan {
        /** Above every COST and FAR together, so that what is safe goes ahead of what is near. */
        private static final int FARTHER_THAN_ALL = 10000;

        private int s;
        private int d;
        private int e;
        private int link;
        private int cost;
        /** NODES, but for s, that have a way to s: a FAR of others is none, and none is not less. */
        private int mates;
        /** NEIGHBOURS of s but for its NEXT, and which of them are what. */
        private int others;
        private int loopFree;
        private int nearer;
        private int nodeSafe;
        private int riskSafe;
        /** The NODE that the last choice brings a PACKET to first. */
        int target;
        int bridgeFrom;
        int bridgeTo;

        /** Whether s has a NEXT for d; if so, the plan is from now on that of s for d. */
        boolean aim(Network net, int newS, int newD) {
            int hop = net.hop(newS, newD);
            int over = net.linkAt(newS, hop);
            if (over == NONE) {
                return false;
            }
            s = newS;
            d = newD;
            e = hop;
            link = over;
            cost = net.costs[over];
            forgetOnes();
            for (int n = 0; n < net.size; n++) {
                if (n != s && net.fars[s][n] < NO_WAY) {
                    mates |= 1 << n;
                }
                if (n != e && net.linkAt(s, n) != NONE) {
                    judge(net, n, net.linkAt(s, n));
                }
            }
            return true;
        }

        private void forgetOnes() {
            mates = 0;
            others = 0;
            loopFree = 0;
            nearer = 0;
            nodeSafe = 0;
            riskSafe = 0;
        }

        private void judge(Network net, int n, int over) {
            int[] fromD = net.fars[d];
            int[] fromN = net.fars[n];
            int one = 1 << n;
            others |= one;
            if (fromN[d] < fromN[s] + fromD[s]) {
                loopFree |= one;
            }
            if (fromN[d] < fromD[s]) {
                nearer |= one;
            }
            if (e != d && fromN[d] < fromN[e] + fromD[e]) {
                nodeSafe |= one;
            }
            if ((net.risks[over] & net.risks[link]) == 0) {
                riskSafe |= one;
            }
        }

        int onesThatAre(int what) {
            switch (what) {
                case LOOP_FREE:
                    return loopFree;
                case NEARER:
                    return nearer;
                case NODE_SAFE:
                    return nodeSafe;
                case RISK_SAFE:
                    return riskSafe;
                default:
                    return 0;
            }
        }

        /** ALTERNATE. */
        int bestOther(Network net) {
            int best = NONE;
            int least = 0;
            for (int n = 0; n < net.size; n++) {
                int rank = net.costAt(s, n) + net.fars[n][d];
                rank += has(nodeSafe, n) ? 0 : 2 * FARTHER_THAN_ALL;
                rank += has(riskSafe, n) ? 0 : FARTHER_THAN_ALL;
                if (has(loopFree, n) && (best == NONE || rank < least)) {
                    best = n;
                    least = rank;
                }
            }
            return best;
        }

        boolean isBestOther(Network net, int what) {
            int n = bestOther(net);
            return n != NONE && has(onesThatAre(what), n);
        }

        int reachedOfItself(Network net) {
            int[] fromS = net.fars[s];
            int[] fromE = net.fars[e];
            int bits = 0;
            for (int x = 0; x < net.size; x++) {
                if (has(mates, x) && fromS[x] < cost + fromE[x]) {
                    bits |= 1 << x;
                }
            }
            return bits;
        }

        private int reachedBy(Network net, int n) {
            int[] fromS = net.fars[s];
            int[] fromE = net.fars[e];
            int[] fromN = net.fars[n];
            int overS = fromN[s] + cost;
            int overE = fromN[e] + cost;
            int bits = 0;
            for (int x = 0; x < net.size; x++) {
                if (has(mates, x) && fromN[x] < overS + fromE[x] && fromN[x] < overE + fromS[x]) {
                    bits |= 1 << x;
                }
            }
            return bits;
        }

        int reach(Network net) {
            int bits = reachedOfItself(net);
            for (int n = 0; n < net.size; n++) {
                if (has(others, n)) {
                    bits |= reachedBy(net, n);
                }
            }
            return bits;
        }

        int coming(Network net) {
            int[] fromS = net.fars[s];
            int[] fromD = net.fars[d];
            int overLink = cost + fromD[e];
            int bits = 0;
            for (int x = 0; x < net.size; x++) {
                if (has(mates, x) && fromD[x] < fromS[x] + overLink) {
                    bits |= 1 << x;
                }
            }
            return bits;
        }

        /** Of REACH and COMING at once: MEETING. */
        int nearestOf(Network net, int bits) {
            int[] fromS = net.fars[s];
            int best = NONE;
            for (int x = 0; x < net.size; x++) {
                if (has(bits, x) && (best == NONE || fromS[x] < fromS[best])) {
                    best = x;
                }
            }
            return best;
        }

        /** Whether there is a BRIDGE; bridgeFrom and bridgeTo are its ends. */
        boolean findBridge(Network net, int reach, int coming) {
            int least = NO_WAY;
            bridgeFrom = NONE;
            bridgeTo = NONE;
            for (int p = 0; p < net.size; p++) {
                for (int q = 0; q < net.size && has(reach, p); q++) {
                    int price = net.fars[s][p] + net.costAt(p, q);
                    if (has(coming, q) && net.linkAt(p, q) != link && price < least) {
                        least = price;
                        bridgeFrom = p;
                        bridgeTo = q;
                    }
                }
            }
            return bridgeFrom != NONE;
        }

        /** REPAIR. */
        int choose(Network net) {
            target = bestOther(net);
            if (target != NONE) {
                return BY_ALTERNATE;
            }
            int reach = reach(net);
            int coming = coming(net);
            target = nearestOf(net, reach & coming);
            if (target != NONE) {
                return BY_MEETING;
            }
            boolean found = findBridge(net, reach, coming);
            target = bridgeFrom;
            return found ? BY_BRIDGE : NO_REPAIR;
        }

        /** To whom s gives a PACKET that is to come to x, a NODE in REACH, without the LINK. */
        int firstTowards(Network net, int x) {
            if (has(reachedOfItself(net), x)) {
                return net.hop(s, x);
            }
            for (int n = 0; n < net.size; n++) {
                if (has(others, n) && has(reachedBy(net, n), x)) {
                    return n;
                }
            }
            return NONE;
        }
    }

    /** A PACKET and what has become of it. */
    private static final class Packet {
        int fate;
        int steps;
        int paid;
        int repairedAt;
        private int at;
        private int goal;
        private int broken;
        private final int[] stops = new int[MOST_STEPS + 1];

        /** The plan is lent: it becomes that of the NODE which has to REPAIR the PACKET. */
        void travel(Network net, Plan plan, int brokenLinks, int a, int d) {
            begin(brokenLinks, a, d);
            for (int turn = 0; turn < MOST_STEPS && fate == UNDERWAY; turn++) {
                int n = net.hop(at, goal);
                if (n != NONE && repairedAt == NONE && isBlocked(net, n)) {
                    turnAside(net, plan);
                } else {
                    go(net, n);
                }
            }
        }

        int stop(int i) {
            return i >= 0 && i <= steps ? stops[i] : NONE;
        }

        private void begin(int brokenLinks, int a, int d) {
            fate = UNDERWAY;
            steps = 0;
            paid = 0;
            repairedAt = NONE;
            at = a;
            goal = d;
            broken = brokenLinks;
            stops[0] = a;
        }

        private boolean isBlocked(Network net, int n) {
            int link = net.linkAt(at, n);
            return link == NONE || has(broken, link);
        }

        private void go(Network net, int n) {
            if (isBlocked(net, n) || steps >= MOST_STEPS) {
                fate = LOST;
                return;
            }
            paid += net.costAt(at, n);
            at = n;
            steps++;
            stops[steps] = n;
            if (at == goal) {
                fate = ARRIVED;
            } else if (steps == MOST_STEPS) {
                fate = ROUND;
            }
        }

        private void turnAside(Network net, Plan plan) {
            repairedAt = at;
            int repair = plan.aim(net, at, goal) ? plan.choose(net) : NO_REPAIR;
            switch (repair) {
                case BY_ALTERNATE:
                    go(net, plan.target);
                    break;
                case BY_MEETING:
                    goUpTo(net, plan);
                    break;
                case BY_BRIDGE:
                    goUpTo(net, plan);
                    if (fate == UNDERWAY) {
                        go(net, plan.bridgeTo);
                    }
                    break;
                default:
                    fate = LOST;
            }
        }

        private void goUpTo(Network net, Plan plan) {
            int x = plan.target;
            go(net, plan.firstTowards(net, x));
            for (int step = 0; step < MOST_STEPS && fate == UNDERWAY && at != x; step++) {
                go(net, net.hop(at, x));
            }
        }
    }

    /** BEHIND a LINK: FAR and NEXT without it, and how the NODES come to know them. */
    private static final class Aftermath {
        private final int[] row = new int[MOST_NODES];
        private final int[] hops = new int[MOST_NODES];

        int farWithout(Network net, int link, int a, int b) {
            net.measure(row, b, link);
            return row[a];
        }

        int hopWithout(Network net, int link, int a, int d) {
            net.measure(row, d, link);
            return net.hopBy(row, a, link);
        }

        int hitNodes(Network net, int link, int d) {
            int bits = 0;
            for (int v = 0; v < net.size; v++) {
                if (isHit(net, link, d, v)) {
                    bits |= 1 << v;
                }
            }
            return bits;
        }

        private boolean isHit(Network net, int link, int d, int v) {
            int at = v;
            for (int step = 0; step < net.size; step++) {
                int n = net.hop(at, d);
                if (n == NONE) {
                    return false;
                }
                if (net.linkAt(at, n) == link) {
                    return true;
                }
                at = n;
            }
            return false;
        }

        /** BETWEEN. */
        int waysOver(Network net, int link) {
            int ways = 0;
            for (int d = 0; d < net.size; d++) {
                ways += Integer.bitCount(hitNodes(net, link, d));
            }
            return ways;
        }

        /**
         * WAIT of v for d. Whoever sends over a HIT NODE is HIT, too, so that
         * the longest row of NEXT that ends in v is the WAIT.
         */
        int delay(Network net, int link, int d, int v) {
            if (!isHit(net, link, d, v)) {
                return NONE;
            }
            int most = 0;
            for (int u = 0; u < net.size; u++) {
                most = Math.max(most, stepsUpTo(net, u, d, v));
            }
            return most;
        }

        private int stepsUpTo(Network net, int u, int d, int v) {
            int at = u;
            for (int step = 0; step < net.size && at != NONE; step++) {
                if (at == v) {
                    return step;
                }
                at = net.hop(at, d);
            }
            return NONE;
        }

        int longestDelay(Network net, int link, int v) {
            int most = NONE;
            for (int d = 0; d < net.size; d++) {
                most = Math.max(most, delay(net, link, d, v));
            }
            return most;
        }

        /** NODES from which it GOES ROUND for d while those in the set know it. */
        int circling(Network net, int link, int d, int set) {
            net.measure(row, d, link);
            for (int v = 0; v < net.size; v++) {
                hops[v] = has(set, v) ? net.hopBy(row, v, link) : net.hop(v, d);
            }
            int bits = 0;
            for (int v = 0; v < net.size; v++) {
                if (!comesToAnEnd(net, v)) {
                    bits |= 1 << v;
                }
            }
            return bits;
        }

        /** Who has gone on as often as there are NODES has been at one of them twice. */
        private boolean comesToAnEnd(Network net, int v) {
            int at = v;
            for (int step = 0; step < net.size; step++) {
                at = hops[at];
                if (at == NONE) {
                    return true;
                }
            }
            return false;
        }

        /** SPARE. A LINK off the WAY leaves FAR as it is, so only those on it are tried. */
        int worstDetour(Network net, int a, int b) {
            int usual = net.fars[a][b];
            if (usual >= NO_WAY) {
                return NO_WAY;
            }
            int worst = 0;
            int at = a;
            for (int step = 0; step < net.size && at != b; step++) {
                int n = net.hop(at, b);
                int without = farWithout(net, net.linkAt(at, n), a, b);
                if (without >= NO_WAY) {
                    return NO_WAY;
                }
                worst = Math.max(worst, without - usual);
                at = n;
            }
            return worst;
        }
    }

    /** CUT, as how many ways there are that share no LINK. */
    private static final class Flow {
        /** 1: used from its first NODE to its second one, -1: the other way, 0: not used. */
        private final int[] used = new int[MOST_LINKS];
        private final int[] cameFrom = new int[MOST_NODES];
        private final int[] queue = new int[MOST_NODES];

        int leastCut(Network net, int a, int b) {
            Arrays.fill(used, 0);
            int ways = 0;
            while (ways < MOST_LINKS && findWay(net, a, b)) {
                useWay(net, a, b);
                ways++;
            }
            return ways;
        }

        private boolean findWay(Network net, int a, int b) {
            Arrays.fill(cameFrom, NONE);
            cameFrom[a] = a;
            queue[0] = a;
            int waiting = 1;
            for (int head = 0; head < net.size && head < waiting && cameFrom[b] == NONE; head++) {
                waiting = spread(net, queue[head], waiting);
            }
            return cameFrom[b] != NONE;
        }

        private int spread(Network net, int v, int waiting) {
            int queued = waiting;
            for (int n = 0; n < net.size; n++) {
                if (queued < MOST_NODES && cameFrom[n] == NONE && isFree(net, v, n)) {
                    cameFrom[n] = v;
                    queue[queued] = n;
                    queued++;
                }
            }
            return queued;
        }

        private boolean isFree(Network net, int v, int n) {
            int link = net.linkAt(v, n);
            return link != NONE && used[link] != direction(net, link, v);
        }

        private static int direction(Network net, int link, int v) {
            return net.firsts[link] == v ? 1 : -1;
        }

        private void useWay(Network net, int a, int b) {
            int at = b;
            for (int step = 0; step < net.size && at != a; step++) {
                int v = cameFrom[at];
                int link = net.linkAt(v, at);
                if (link == NONE) {
                    return;
                }
                used[link] += direction(net, link, v);
                at = v;
            }
        }
    }
}
