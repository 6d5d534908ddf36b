import java.util.ArrayList;
import java.util.HashMap;
import java.util.HashSet;
import java.util.List;
import java.util.Map;
import java.util.NoSuchElementException;
import java.util.Set;

/**
 * The document once more, word by word and without regard to speed: none is
 * infinity, so that sums and comparisons with none come out as the terms ask.
 * It shares no code with RerouteHouse and goes other ways wherever there are any.
 */
final class Model {
    static final int NONE = -1;
    private static final double NO = Double.POSITIVE_INFINITY;

    private static final class Line {
        int a;
        int b;
        int cost;
        int groups;
    }

    /** What came of a PACKET. */
    private static final class Trip {
        final List<Integer> stops = new ArrayList<>();
        int fate = NONE;
        int repairedAt = NONE;
        int paid;

        int at() {
            return stops.get(stops.size() - 1);
        }
    }

    private int nodes = 2;
    private List<Line> lines = new ArrayList<>();
    private int downWhat;
    private int downWhich;
    private final Map<Integer, double[][]> known = new HashMap<>();

    int nodes(int n) {
        if (n < 2 || n > 12) {
            return NONE;
        }
        int were = lines.size();
        nodes = n;
        lines = new ArrayList<>();
        downWhat = 0;
        downWhich = 0;
        known.clear();
        return were;
    }

    int link(int a, int b, int cost) {
        if (!node(a) || !node(b) || a == b || cost < 1 || cost > 99 || between(a, b) != NONE || lines.size() == 24) {
            return NONE;
        }
        Line line = new Line();
        line.a = a;
        line.b = b;
        line.cost = cost;
        lines.add(line);
        known.clear();
        return lines.size() - 1;
    }

    int cost(int link, int cost) {
        if (!isLine(link) || cost < 1 || cost > 99) {
            return NONE;
        }
        int was = lines.get(link).cost;
        lines.get(link).cost = cost;
        known.clear();
        return was;
    }

    int groups(int link, int set) {
        if (!isLine(link) || set < 0 || set > 255) {
            return NONE;
        }
        int was = lines.get(link).groups;
        lines.get(link).groups = set;
        return was;
    }

    boolean down(int what, int which) {
        boolean fine = what == 0 || what == 1 && isLine(which) || what == 2 && node(which)
                || what == 3 && which >= 0 && which <= 7;
        if (fine) {
            downWhat = what;
            downWhich = what == 0 ? 0 : which;
        }
        return fine;
    }

    int of(int link, int what) {
        if (!isLine(link)) {
            return NONE;
        }
        Line line = lines.get(link);
        int[] answers = {line.a, line.b, line.cost, line.groups, down().contains(link) ? 1 : 0, betweenOf(link)};
        return what >= 0 && what < answers.length ? answers[what] : NONE;
    }

    int between(int a, int b) {
        for (int i = 0; i < lines.size(); i++) {
            Line line = lines.get(i);
            if (line.a == a && line.b == b || line.a == b && line.b == a) {
                return i;
            }
        }
        return NONE;
    }

    int far(int a, int b) {
        return node(a) && node(b) ? number(fars(NONE)[a][b]) : NONE;
    }

    int next(int a, int d) {
        return node(a) && node(d) ? next(fars(NONE), NONE, a, d) : NONE;
    }

    int way(int a, int d, int i) {
        if (!node(a) || !node(d) || fars(NONE)[a][d] == NO || i < 0) {
            throw new NoSuchElementException();
        }
        List<Integer> way = wayOf(a, d);
        if (i >= way.size()) {
            throw new NoSuchElementException();
        }
        return way.get(i);
    }

    int ones(int s, int d, int what) {
        int bits = 0;
        if (next(s, d) == NONE) {
            return 0;
        }
        for (int n = 0; n < nodes; n++) {
            if (between(s, n) != NONE && n != next(s, d) && is(s, d, n, what)) {
                bits |= 1 << n;
            }
        }
        return bits;
    }

    private boolean is(int s, int d, int n, int what) {
        double[][] far = fars(NONE);
        int e = next(s, d);
        switch (what) {
            case 0: return far[n][d] < far[n][s] + far[s][d];
            case 1: return far[n][d] < far[s][d];
            case 2: return e != d && far[n][d] < far[n][e] + far[e][d];
            case 3: return (lines.get(between(s, n)).groups & lines.get(between(s, e)).groups) == 0;
            default: return false;
        }
    }

    int alternate(int s, int d) {
        int loopFree = ones(s, d, 0);
        int safest = ones(s, d, 2) & loopFree;
        int left = safest != 0 ? safest : loopFree;
        int apart = ones(s, d, 3) & left;
        left = apart != 0 ? apart : left;
        int best = NONE;
        for (int n = nodes - 1; n >= 0; n--) {
            if ((left >> n & 1) == 1 && (best == NONE || total(s, n, d) <= total(s, best, d))) {
                best = n;
            }
        }
        return best;
    }

    private double total(int s, int n, int d) {
        return lines.get(between(s, n)).cost + fars(NONE)[n][d];
    }

    int space(int s, int d, int what) {
        if (next(s, d) == NONE) {
            return 0;
        }
        int bits = 0;
        for (int x = 0; x < nodes; x++) {
            boolean in = what == 0 && reached(s, d, x)
                    || what == 1 && (reached(s, d, x) || firstReaching(s, d, x) != NONE)
                    || what == 2 && coming(s, d, x);
            bits |= in ? 1 << x : 0;
        }
        return bits;
    }

    private boolean reached(int s, int d, int x) {
        double[][] far = fars(NONE);
        int e = next(s, d);
        return x != s && far[s][x] < lines.get(between(s, e)).cost + far[e][x];
    }

    private int firstReaching(int s, int d, int x) {
        double[][] far = fars(NONE);
        int e = next(s, d);
        int cost = lines.get(between(s, e)).cost;
        for (int n = 0; n < nodes && x != s; n++) {
            if (n != e && between(s, n) != NONE
                    && far[n][x] < far[n][s] + cost + far[e][x]
                    && far[n][x] < far[n][e] + cost + far[s][x]) {
                return n;
            }
        }
        return NONE;
    }

    private boolean coming(int s, int d, int x) {
        double[][] far = fars(NONE);
        int e = next(s, d);
        return x != s && far[x][d] < far[x][s] + lines.get(between(s, e)).cost + far[e][d];
    }

    int tunnel(int s, int d, int what) {
        if (next(s, d) == NONE || what < 0 || what > 2) {
            return NONE;
        }
        double[] far = fars(NONE)[s];
        int reach = space(s, d, 1);
        int coming = space(s, d, 2);
        int best = NONE;
        for (int x = 0; x < nodes; x++) {
            if ((reach & coming & 1 << x) != 0 && (best == NONE || far[x] < far[best])) {
                best = x;
            }
        }
        int[] bridge = bridge(far, reach, coming, between(s, next(s, d)));
        return what == 0 ? best : bridge[what - 1];
    }

    private int[] bridge(double[] far, int reach, int coming, int without) {
        int[] best = {NONE, NONE};
        double least = NO;
        for (int i = 0; i < lines.size(); i++) {
            Line line = lines.get(i);
            int[][] both = {{line.a, line.b}, {line.b, line.a}};
            for (int[] pair : both) {
                if (i == without || (reach >> pair[0] & 1) == 0 || (coming >> pair[1] & 1) == 0) {
                    continue;
                }
                double price = far[pair[0]] + line.cost;
                boolean lower = pair[0] < best[0] || pair[0] == best[0] && pair[1] < best[1];
                if (price < least || price == least && lower) {
                    least = price;
                    best = pair;
                }
            }
        }
        return best;
    }

    int repair(int s, int d) {
        if (next(s, d) == NONE) {
            return NONE;
        }
        if (alternate(s, d) != NONE) {
            return 1;
        }
        if (tunnel(s, d, 0) != NONE) {
            return 2;
        }
        return tunnel(s, d, 1) != NONE ? 3 : 0;
    }

    int send(int a, int d, int what) {
        if (!maySend(a, d)) {
            return NONE;
        }
        Trip trip = trip(a, d, down());
        int[] answers = {trip.fate, trip.stops.size() - 1, trip.repairedAt, trip.paid};
        return what >= 0 && what < answers.length ? answers[what] : NONE;
    }

    int trace(int a, int d, int i) {
        if (!maySend(a, d)) {
            return NONE;
        }
        List<Integer> stops = trip(a, d, down()).stops;
        return i >= 0 && i < stops.size() ? stops.get(i) : NONE;
    }

    private boolean maySend(int a, int d) {
        return node(a) && node(d) && a != d && !(downWhat == 2 && (downWhich == a || downWhich == d));
    }

    private Trip trip(int a, int d, Set<Integer> down) {
        Trip trip = new Trip();
        trip.stops.add(a);
        while (trip.fate == NONE) {
            int to = next(trip.at(), d);
            if (to != NONE && down.contains(between(trip.at(), to)) && trip.repairedAt == NONE) {
                trip.repairedAt = trip.at();
                repaired(trip, d, down);
            } else {
                move(trip, to, d, down);
            }
        }
        return trip;
    }

    private void repaired(Trip trip, int d, Set<Integer> down) {
        int s = trip.at();
        switch (repair(s, d)) {
            case 0:
                trip.fate = 1;
                return;
            case 1:
                move(trip, alternate(s, d), d, down);
                return;
            case 2:
                tunnelled(trip, tunnel(s, d, 0), d, down);
                return;
            default:
                tunnelled(trip, tunnel(s, d, 1), d, down);
                move(trip, tunnel(s, d, 2), d, down);
        }
    }

    private void tunnelled(Trip trip, int x, int d, Set<Integer> down) {
        move(trip, first(trip.at(), d, x), d, down);
        while (trip.fate == NONE && trip.at() != x) {
            move(trip, next(trip.at(), x), d, down);
        }
    }

    private void move(Trip trip, int to, int d, Set<Integer> down) {
        if (trip.fate != NONE) {
            return;
        }
        int link = between(trip.at(), to);
        if (link == NONE || down.contains(link)) {
            trip.fate = 1;
            return;
        }
        trip.paid += lines.get(link).cost;
        trip.stops.add(to);
        if (to == d) {
            trip.fate = 0;
        } else if (trip.stops.size() > 40) {
            trip.fate = 2;
        }
    }

    private int first(int s, int d, int x) {
        return reached(s, d, x) ? next(s, x) : firstReaching(s, d, x);
    }

    int behind(int link, int a, int b) {
        return isLine(link) && node(a) && node(b) ? number(fars(link)[a][b]) : NONE;
    }

    int nextBehind(int link, int a, int d) {
        return isLine(link) && node(a) && node(d) ? next(fars(link), link, a, d) : NONE;
    }

    int hit(int link, int d) {
        int bits = 0;
        for (int v = 0; v < nodes && isLine(link) && node(d); v++) {
            bits |= linesOf(wayOf(v, d)).contains(link) ? 1 << v : 0;
        }
        return bits;
    }

    int holds(int link, int d, int v) {
        if (!isLine(link) || !node(v)) {
            return NONE;
        }
        if (d != NONE) {
            return node(d) ? waitOf(link, d, v) : NONE;
        }
        int most = NONE;
        for (int x = 0; x < nodes; x++) {
            most = Math.max(most, waitOf(link, x, v));
        }
        return most;
    }

    private int waitOf(int link, int d, int v) {
        int hit = hit(link, d);
        if ((hit >> v & 1) == 0) {
            return NONE;
        }
        int wait = 0;
        for (int u = 0; u < nodes; u++) {
            if (u != v && (hit >> u & 1) == 1 && next(u, d) == v) {
                wait = Math.max(wait, 1 + waitOf(link, d, u));
            }
        }
        return wait;
    }

    int round(int link, int d, int set) {
        int bits = 0;
        for (int v = 0; v < nodes && isLine(link) && node(d); v++) {
            Set<Integer> been = new HashSet<>();
            int at = v;
            while (at != NONE && been.add(at)) {
                at = (set >> at & 1) == 1 ? nextBehind(link, at, d) : next(at, d);
            }
            bits |= at != NONE ? 1 << v : 0;
        }
        return bits;
    }

    int covered(int what) {
        if (what < 0 || what > 7) {
            return NONE;
        }
        int pairs = 0;
        for (int s = 0; s < nodes; s++) {
            for (int d = 0; d < nodes; d++) {
                pairs += s != d && far(s, d) != NONE && isOf(what, s, d) ? 1 : 0;
            }
        }
        return pairs;
    }

    private boolean isOf(int what, int s, int d) {
        int alternate = alternate(s, d);
        switch (what) {
            case 0: return true;
            case 4: return repair(s, d) == 0;
            case 5: return alternate != NONE && is(s, d, alternate, 2);
            case 6: return alternate != NONE && is(s, d, alternate, 3);
            case 7: return safe(s, d);
            default: return repair(s, d) == what;
        }
    }

    private boolean safe(int s, int d) {
        for (int link : linesOf(wayOf(s, d))) {
            if (trip(s, d, Set.of(link)).fate != 0) {
                return false;
            }
        }
        return true;
    }

    /** By all ways to part the NODES in two. */
    int cut(int a, int b) {
        if (!node(a) || !node(b) || a == b) {
            return NONE;
        }
        int least = Integer.MAX_VALUE;
        for (int side = 0; side < 1 << nodes; side++) {
            if ((side >> a & 1) == 1 && (side >> b & 1) == 0) {
                int crossing = 0;
                for (Line line : lines) {
                    crossing += (side >> line.a & 1) != (side >> line.b & 1) ? 1 : 0;
                }
                least = Math.min(least, crossing);
            }
        }
        return least;
    }

    int spare(int a, int b) {
        if (!node(a) || !node(b) || a == b || far(a, b) == NONE) {
            return NONE;
        }
        double most = 0;
        for (int link = 0; link < lines.size(); link++) {
            most = Math.max(most, fars(link)[a][b] - fars(NONE)[a][b]);
        }
        return number(most);
    }

    int centre() {
        int best = NONE;
        double least = NO;
        for (int v = 0; v < nodes; v++) {
            double most = 0;
            for (int x = 0; x < nodes; x++) {
                most = Math.max(most, fars(NONE)[v][x]);
            }
            if (most < least) {
                least = most;
                best = v;
            }
        }
        return best;
    }

    int count(int what) {
        int costs = 0;
        for (Line line : lines) {
            costs += line.cost;
        }
        int[] answers = {nodes, lines.size(), downWhat, downWhich, down().size(), costs};
        return what >= 0 && what < answers.length ? answers[what] : NONE;
    }

    private boolean node(int v) {
        return v >= 0 && v < nodes;
    }

    private boolean isLine(int link) {
        return link >= 0 && link < lines.size();
    }

    private static int number(double far) {
        return far == NO ? NONE : (int) far;
    }

    private Set<Integer> down() {
        Set<Integer> down = new HashSet<>();
        for (int i = 0; i < lines.size(); i++) {
            Line line = lines.get(i);
            if (downWhat == 1 && i == downWhich || downWhat == 2 && (line.a == downWhich || line.b == downWhich)
                    || downWhat == 3 && (line.groups >> downWhich & 1) == 1) {
                down.add(i);
            }
        }
        return down;
    }

    private int betweenOf(int link) {
        int ways = 0;
        for (int a = 0; a < nodes; a++) {
            for (int d = 0; d < nodes; d++) {
                ways += a != d && linesOf(wayOf(a, d)).contains(link) ? 1 : 0;
            }
        }
        return ways;
    }

    private List<Integer> wayOf(int a, int d) {
        List<Integer> way = new ArrayList<>();
        for (int at = a; at != NONE; at = next(at, d)) {
            way.add(at);
        }
        return way;
    }

    private List<Integer> linesOf(List<Integer> way) {
        List<Integer> found = new ArrayList<>();
        for (int i = 1; i < way.size(); i++) {
            found.add(between(way.get(i - 1), way.get(i)));
        }
        return found;
    }

    private int next(double[][] far, int without, int a, int d) {
        for (int n = 0; n < nodes && a != d && far[a][d] < NO; n++) {
            int link = between(a, n);
            if (link != NONE && link != without && lines.get(link).cost + far[n][d] == far[a][d]) {
                return n;
            }
        }
        return NONE;
    }

    private double[][] fars(int without) {
        return known.computeIfAbsent(without, this::measured);
    }

    private double[][] measured(int without) {
        double[][] far = new double[nodes][nodes];
        for (int a = 0; a < nodes; a++) {
            for (int b = 0; b < nodes; b++) {
                int link = between(a, b);
                far[a][b] = a == b ? 0 : link == NONE || link == without ? NO : lines.get(link).cost;
            }
        }
        for (int over = 0; over < nodes; over++) {
            for (int a = 0; a < nodes; a++) {
                for (int b = 0; b < nodes; b++) {
                    far[a][b] = Math.min(far[a][b], far[a][over] + far[over][b]);
                }
            }
        }
        return far;
    }
}
