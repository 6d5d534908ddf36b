import static java.lang.Integer.MAX_VALUE;
import static java.lang.Integer.MIN_VALUE;

/** Boundary sentences about what a NODE may do instead, and about PACKETS: promises 12 to 18, one by one. */
public final class Edges12To18Test {
    private static final int NONE = Edges.NONE;

    public static void main(String[] args) throws IllegalAccessException {
        Edges.run(Edges12To18Test.class, 12, 18);
    }

    private static void due(Object want, Object got) {
        Edges.due(want, got);
    }

    /** 0-1 and 1-2 of 1, 2-3 of 10, 3-0 of 1: without LINK 0 only the BRIDGE 3-2 helps 0 to 1. */
    private static RerouteHouse bridged() {
        return Edges.net(4, 0, 1, 1, 1, 2, 1, 2, 3, 10, 3, 0, 1);
    }

    /** From 0 to 5 by 1 (LINKS 0, 1), by 2 (2, 3), by 3 (4, 5), by 4 (6, 7); the last three are as long. */
    private static RerouteHouse fan() {
        return Edges.net(6, 0, 1, 1, 1, 5, 1, 0, 2, 1, 2, 5, 2, 0, 3, 1, 3, 5, 2, 0, 4, 1, 4, 5, 2);
    }

    /** 0 to 11 along a line of COSTS of 1; a LINK of 99 (number 11) closes it. */
    private static RerouteHouse longWayRound() {
        RerouteHouse x = Edges.line(12, 1);
        x.link(0, 11, 99);
        return x;
    }

    private static void dueTrace(RerouteHouse x, int a, int d, int... stops) {
        for (int i = 0; i < stops.length; i++) {
            due(stops[i], x.trace(a, d, i));
        }
        due(NONE, x.trace(a, d, stops.length));
        due(stops.length - 1, x.send(a, d, 1));
    }

    // Promise 12

    /** "not its NEXT for d". */
    static void promise12_itsNextIsNotAmongThem() {
        RerouteHouse x = Edges.net(4, 0, 1, 1, 0, 2, 1, 0, 3, 1);
        due(0b1100, x.ones(0, 1, 3));
        due(0b1010, x.ones(0, 2, 3));
        due(0b0110, x.ones(0, 3, 3));
        // NEXT would be NEARER and LOOP-FREE
        due(0, x.ones(0, 1, 0));
        due(0, x.ones(0, 1, 1));
    }

    /** "NEIGHBOURS of s" alone, though another NODE is as near. */
    static void promise12_onlyNeighbours() {
        RerouteHouse x = Edges.ring(6, 1);
        due(0b100000, x.ones(0, 2, 3));
        due(0, x.ones(0, 2, 1));
        due(0b100000, x.ones(0, 3, 1));
    }

    /** A NODE with one LINK has no other NEIGHBOUR. */
    static void promise12_aSingleLink() {
        RerouteHouse x = Edges.line(3, 1);
        for (int what = 0; what < 4; what++) {
            due(0, x.ones(0, 2, what));
        }
    }

    /** "LOOP-FREE, if FAR of n, d is less": not if as much. */
    static void promise12_loopFreeIsLessNotAsMuch() {
        RerouteHouse x = Edges.ring(4, 1);
        // 3 to 1 is 2, over 0 it is 1 and 1
        due(0, x.ones(0, 1, 0));
        x.cost(0, 2);
        // 3 to 1 is 2, over 0 it is 1 and 2
        due(0b1000, x.ones(0, 1, 0));
    }

    /** "NEARER, if it is less than FAR of s, d": not if as much. */
    static void promise12_nearerIsLessNotAsMuch() {
        RerouteHouse x = Edges.ring(3, 1);
        due(0, x.ones(0, 1, 1));
        x.cost(0, 2);
        due(1, x.next(0, 1));
        due(0b100, x.ones(0, 1, 1));
    }

    /** "NODE-SAFE, if .. less than FAR of n, e and of e, d": not if as much. */
    static void promise12_nodeSafeIsLessNotAsMuch() {
        RerouteHouse x = Edges.net(4, 0, 1, 1, 1, 3, 1, 0, 2, 1, 2, 1, 1, 2, 3, 2);
        // 2 to 3 is 2, over 1 it is 1 and 1
        due(1, x.next(0, 3));
        due(0b0100, x.ones(0, 3, 0));
        due(0, x.ones(0, 3, 2));
        x.cost(4, 1);
        due(1, x.next(0, 3));
        due(0b0100, x.ones(0, 3, 2));
    }

    /** "NODE-SAFE, if e is not d". */
    static void promise12_noneIsNodeSafeIfTheNextIsTheGoal() {
        RerouteHouse x = Edges.ring(3, 1);
        due(1, x.next(0, 1));
        due(0b100, x.ones(0, 1, 0));
        due(0, x.ones(0, 1, 2));
    }

    /** "RISK-SAFE, if the LINK to n has no GROUP of l": not even one of many, the highest one too. */
    static void promise12_riskSafeSharesNoGroupAtAll() {
        RerouteHouse x = Edges.net(4, 0, 1, 1, 0, 2, 1, 0, 3, 1);
        x.groups(0, 0b10000001);
        x.groups(1, 0b01111110);
        x.groups(2, 0b10000000);
        due(0b0100, x.ones(0, 1, 3));
        x.groups(2, 0b01111111);
        due(0b0100, x.ones(0, 1, 3));
        x.groups(2, 0);
        due(0b1100, x.ones(0, 1, 3));
    }

    /** A LINK without GROUPS shares none, whatever the others have. */
    static void promise12_withoutGroupsAllAreRiskSafe() {
        RerouteHouse x = Edges.net(4, 0, 1, 1, 0, 2, 1, 0, 3, 1);
        x.groups(1, 255);
        x.groups(2, 255);
        due(0b1100, x.ones(0, 1, 3));
    }

    /** "0: others": what is none of 0 to 3. */
    static void promise12_otherWhats() {
        RerouteHouse x = fan();
        due(0b011100, x.ones(0, 5, 0));
        due(0, x.ones(0, 5, 4));
        due(0, x.ones(0, 5, -1));
        for (int what : Edges.outside(0, 3)) {
            due(0, x.ones(0, 5, what));
        }
    }

    /** "0: others": what is no NODE. */
    static void promise12_otherNodes() {
        RerouteHouse x = fan();
        for (int v : Edges.outside(0, 5)) {
            for (int what = 0; what < 4; what++) {
                due(0, x.ones(v, 0, what));
                due(0, x.ones(0, v, what));
            }
        }
    }

    /** "s has no NEXT for d": one and the same, no way. */
    static void promise12_withoutANext() {
        RerouteHouse x = Edges.net(5, 0, 1, 1, 0, 2, 1, 3, 4, 1);
        for (int what = 0; what < 4; what++) {
            due(0, x.ones(0, 0, what));
            due(0, x.ones(0, 3, what));
            due(0, x.ones(3, 0, what));
        }
        due(0b00100, x.ones(0, 1, 3));
    }

    /** Bits up to the NODE 11. */
    static void promise12_theHighestNode() {
        RerouteHouse x = Edges.net(12, 11, 9, 1, 9, 0, 1, 11, 10, 1, 10, 0, 1, 8, 0, 1, 8, 9, 1, 8, 11, 3);
        due(1 << 10 | 1 << 8, x.ones(11, 0, 0));
        due(1 << 11, x.ones(10, 0, 3));
    }

    /** Of twelve NODES 11 is the last: the number behind it is none. */
    static void promise12_noNodeBehindTheLastOfTwelve() {
        RerouteHouse x = Edges.full();
        for (int what = 0; what < 4; what++) {
            due(0, x.ones(12, 0, what));
            due(0, x.ones(0, 12, what));
        }
    }

    /** More than one may be so: each has its bit. */
    static void promise12_allThatAreSo() {
        RerouteHouse x = Edges.net(5, 0, 1, 1, 1, 4, 1, 0, 2, 1, 2, 4, 1, 0, 3, 1, 3, 4, 1);
        for (int what = 0; what < 4; what++) {
            due(0b01100, x.ones(0, 4, what));
        }
    }

    /** What was so for another pair is not so for this one. */
    static void promise12_nothingOfAnEarlierQuestionIsLeft() {
        RerouteHouse x = Edges.net(5, 0, 1, 1, 1, 4, 1, 0, 2, 1, 2, 4, 1, 0, 3, 1, 3, 4, 1);
        x.groups(0, 1);
        for (int what = 0; what < 4; what++) {
            due(0b01100, x.ones(0, 4, what));
            due(what == 3 ? 0b10000 : 0, x.ones(1, 0, what));
        }
    }

    // Promise 13

    /** "NONE: none": no other NEIGHBOUR, or none that is LOOP-FREE. */
    static void promise13_none() {
        due(NONE, Edges.line(3, 1).alternate(0, 2));
        RerouteHouse x = Edges.ring(4, 1);
        due(0b1000, x.ones(0, 1, 3));
        due(NONE, x.alternate(0, 1));
    }

    /** "NODE-SAFE ahead of those that are not": also if it is dearer by far, and shares a risk. */
    static void promise13_nodeSafeGoesAheadOfAll() {
        RerouteHouse x = Edges.net(5, 0, 1, 1, 1, 2, 1, 0, 3, 1, 3, 1, 1, 0, 4, 99, 4, 2, 99);
        x.groups(0, 1);
        x.groups(4, 1);
        due(0b11000, x.ones(0, 2, 0));
        due(0b10000, x.ones(0, 2, 2));
        due(0b01000, x.ones(0, 2, 3));
        due(4, x.alternate(0, 2));
    }

    /** "then RISK-SAFE ahead": also if it is dearer by far. */
    static void promise13_riskSafeGoesAheadOfCheapOnes() {
        RerouteHouse x = Edges.net(5, 0, 1, 1, 1, 2, 1, 0, 3, 1, 3, 2, 2, 0, 4, 99, 4, 2, 99);
        due(3, x.alternate(0, 2));
        x.groups(0, 128);
        x.groups(2, 192);
        due(0b11000, x.ones(0, 2, 2));
        due(4, x.alternate(0, 2));
    }

    /** RISK-SAFE counts among those that are not NODE-SAFE, too. */
    static void promise13_riskSafeGoesAheadIfNoneIsNodeSafe() {
        RerouteHouse x = Edges.net(4, 0, 1, 9, 0, 2, 1, 2, 1, 9, 0, 3, 8, 3, 1, 9);
        x.groups(0, 2);
        x.groups(1, 2);
        due(0b1100, x.ones(0, 1, 0));
        due(0, x.ones(0, 1, 2));
        due(3, x.alternate(0, 1));
    }

    /** "then by COST and FAR of n, d the least": by both together, not by one of them. */
    static void promise13_theLeastOfBothTogether() {
        RerouteHouse x = fan();
        x.cost(2, 3);
        x.cost(4, 3);
        x.cost(5, 1);
        x.cost(6, 2);
        x.cost(7, 3);
        // by 2: 3 and 2, by 3: 3 and 1, by 4: 2 and 3
        due(0b011100, x.ones(0, 5, 2));
        due(3, x.alternate(0, 5));
        // by 3: 9 and 1
        x.cost(2, 4);
        x.cost(4, 9);
        due(0b011100, x.ones(0, 5, 2));
        due(4, x.alternate(0, 5));
    }

    /** "then the lowest". */
    static void promise13_theLowestOfEqualOnes() {
        RerouteHouse x = fan();
        due(2, x.alternate(0, 5));
        x.groups(0, 1);
        x.groups(2, 1);
        due(3, x.alternate(0, 5));
        x.groups(2, 0);
        due(2, x.alternate(0, 5));
    }

    /** d itself may be the ALTERNATE. */
    static void promise13_theGoalItself() {
        due(2, Edges.net(3, 0, 1, 1, 1, 2, 1, 0, 2, 3).alternate(0, 2));
    }

    /** "NONE: others", and without a NEXT. */
    static void promise13_others() {
        RerouteHouse x = fan();
        for (int v : Edges.outside(0, 5)) {
            due(NONE, x.alternate(v, 0));
            due(NONE, x.alternate(0, v));
            due(NONE, x.alternate(v, v));
        }
        due(NONE, x.alternate(0, 0));
        due(NONE, Edges.net(4, 0, 1, 1, 0, 2, 1).alternate(0, 3));
    }

    /** It is prepared before anything is DOWN, so what is DOWN does not count. */
    static void promise13_whatIsDownDoesNotCount() {
        RerouteHouse x = fan();
        x.down(2, 2);
        due(2, x.alternate(0, 5));
        x.down(1, 2);
        due(2, x.alternate(0, 5));
    }

    /** Of twelve NODES 11 is the last: the number behind it is none. */
    static void promise13_noNodeBehindTheLastOfTwelve() {
        RerouteHouse x = Edges.full();
        due(NONE, x.alternate(12, 0));
        due(NONE, x.alternate(0, 12));
    }

    // Promise 14

    /** "NODES x (not s)", in none of the three. */
    static void promise14_itselfIsInNone() {
        RerouteHouse x = Edges.ring(5, 2);
        for (int s = 0; s < 5; s++) {
            for (int what = 0; what < 3; what++) {
                due(0, x.space(s, (s + 1) % 5, what) >> s & 1);
            }
        }
    }

    /** "REACHED .. less than the COST of l and FAR of e, x": not if as much. */
    static void promise14_reachedIsLessNotAsMuch() {
        RerouteHouse x = Edges.ring(4, 1);
        // 0 to 2 is 2, over 1 it is 1 and 1
        due(0b1000, x.space(0, 1, 0));
        x.cost(1, 2);
        // over 1 it is 1 and 2
        due(0b1100, x.space(0, 1, 0));
    }

    /** "REACHED by n .. less than FAR of n, s and the COST of l and FAR of e, x": not if as much. */
    static void promise14_reachedByIsLessNotAsMuch() {
        RerouteHouse x = Edges.ring(4, 1);
        // 3 to 1 is 2, over 0 and LINK 0 it is 1 and 1
        due(0b1100, x.space(0, 1, 1));
        x.cost(0, 2);
        // 3 to 1 is 2, over 0 and LINK 0 it is 1 and 2
        due(0b1110, x.space(0, 1, 1));
    }

    /** "REACHED by n", though n is far off and s is nearer to x over the LINK. */
    static void promise14_reachedByOneFarOff() {
        RerouteHouse x = Edges.net(4, 0, 1, 1, 1, 2, 2, 0, 3, 10, 3, 2, 8);
        due(0b1000, x.space(0, 1, 0));
        due(0b1110, x.space(0, 1, 1));
    }

    /** "REACH: what is REACHED of s, or by any". */
    static void promise14_reachIsOfItselfOrByAny() {
        RerouteHouse x = Edges.ring(6, 2);
        due(0b110000, x.space(0, 1, 0));
        due(0b111000, x.space(0, 1, 1));
    }

    /** "COMING .. less than FAR of x, s and the COST of l and FAR of e, d": not if as much. */
    static void promise14_comingIsLessNotAsMuch() {
        RerouteHouse x = Edges.ring(4, 1);
        // 3 to 1 is 2, over 0 and LINK 0 it is 1 and 1
        due(0b0110, x.space(0, 1, 2));
        x.cost(0, 2);
        due(0b1110, x.space(0, 1, 2));
    }

    /** COMING, where NEXT is not d: FAR of e, d is in the sum, too. */
    static void promise14_comingCountsTheWayBehindTheLink() {
        // 5 to 2 is 3, over 0 and LINK 0 it is 1 and 1 and 1
        due(0b011110, Edges.ring(6, 1).space(0, 2, 2));
        // 4 to 2 is 4, over 0 and LINK 0 it is 2 and 2 and 2
        due(0b11110, Edges.ring(5, 2).space(0, 2, 2));
    }

    /** "none is more than any sum, not less than none": NODES without a way are in none. */
    static void promise14_nodesWithoutAWayAreInNone() {
        RerouteHouse x = Edges.net(6, 0, 1, 5, 1, 2, 5, 2, 0, 5, 3, 4, 1);
        due(0b000100, x.space(0, 1, 0));
        due(0b000110, x.space(0, 1, 1));
        due(0b000110, x.space(0, 1, 2));
        due(0, x.space(3, 4, 0));
        due(0, x.space(3, 4, 1));
        due(0b010000, x.space(3, 4, 2));
    }

    /** A LINK that is the only one: nothing is reached without it, and only d comes to d. */
    static void promise14_theOnlyLink() {
        RerouteHouse x = Edges.net(2, 0, 1, 99);
        due(0, x.space(0, 1, 0));
        due(0, x.space(0, 1, 1));
        due(0b10, x.space(0, 1, 2));
        due(0b01, x.space(1, 0, 2));
    }

    /** Bits up to the NODE 11. */
    static void promise14_theHighestNode() {
        RerouteHouse x = Edges.ring(12, 1);
        due(0b111111000000 & ~(1 << 6), x.space(0, 1, 0));
        due(0b111111000000, x.space(0, 1, 1));
        due(0b000001111110, x.space(0, 1, 2));
    }

    /** Bits down to the NODE 0. */
    static void promise14_theLowestNode() {
        RerouteHouse x = Edges.ring(5, 2);
        due(0b10001, x.space(3, 2, 0));
        due(0b10011, x.space(3, 2, 1));
        due(0b00111, x.space(3, 2, 2));
    }

    /** Of twelve NODES 11 is the last: the number behind it is none. */
    static void promise14_noNodeBehindTheLastOfTwelve() {
        RerouteHouse x = Edges.full();
        for (int what = 0; what < 3; what++) {
            due(0, x.space(12, 0, what));
            due(0, x.space(0, 12, what));
        }
    }

    /** "0: others": what is none of 0 to 2. */
    static void promise14_otherWhats() {
        RerouteHouse x = Edges.ring(5, 2);
        due(0, x.space(0, 1, 3));
        due(0, x.space(0, 1, -1));
        for (int what : Edges.outside(0, 2)) {
            due(0, x.space(0, 1, what));
        }
    }

    /** "0: others": what is no NODE. */
    static void promise14_otherNodes() {
        RerouteHouse x = Edges.ring(5, 2);
        for (int v : Edges.outside(0, 4)) {
            for (int what = 0; what < 3; what++) {
                due(0, x.space(v, 1, what));
                due(0, x.space(1, v, what));
            }
        }
    }

    /** "s has no NEXT for d": one and the same, no way. */
    static void promise14_withoutANext() {
        RerouteHouse x = Edges.net(5, 0, 1, 5, 1, 2, 5, 2, 0, 5, 3, 4, 1);
        for (int what = 0; what < 3; what++) {
            due(0, x.space(0, 0, what));
            due(0, x.space(0, 3, what));
            due(0, x.space(4, 0, what));
        }
    }

    // Promise 15

    /** "NONE: none such": no MEETING, but a BRIDGE. */
    static void promise15_noMeetingButABridge() {
        RerouteHouse x = bridged();
        due(0, x.space(0, 1, 1) & x.space(0, 1, 2));
        due(NONE, x.tunnel(0, 1, 0));
        due(3, x.tunnel(0, 1, 1));
        due(2, x.tunnel(0, 1, 2));
    }

    /** "NONE: none such": neither of them. */
    static void promise15_neitherMeetingNorBridge() {
        RerouteHouse x = Edges.net(4, 0, 1, 5, 0, 2, 5, 1, 3, 5);
        due(0b0100, x.space(0, 1, 1));
        due(0b1010, x.space(0, 1, 2));
        for (int what = 0; what < 3; what++) {
            due(NONE, x.tunnel(0, 1, what));
        }
    }

    /** A BRIDGE is told also where a MEETING, or an ALTERNATE, goes ahead of it. */
    static void promise15_aBridgeBesideAMeeting() {
        RerouteHouse x = Edges.ring(5, 2);
        due(2, x.tunnel(0, 1, 0));
        due(4, x.tunnel(0, 1, 1));
        due(3, x.tunnel(0, 1, 2));
        RerouteHouse y = Edges.ring(3, 1);
        // 2 comes to 1 without the LINK, so 1 itself is in REACH: of 1 and 2, as near, the lowest
        due(2, y.alternate(0, 1));
        due(1, y.tunnel(0, 1, 0));
        due(1, y.tunnel(0, 1, 1));
        due(2, y.tunnel(0, 1, 2));
    }

    /** MEETING: "the least FAR of s and it", not the lowest, nor the nearest to d. */
    static void promise15_theNearestMeeting() {
        RerouteHouse x = Edges.net(6, 0, 1, 3, 0, 2, 1, 2, 4, 3, 4, 1, 1, 0, 3, 1, 3, 5, 1, 5, 1, 3);
        due(0b110000, x.space(0, 1, 1) & x.space(0, 1, 2));
        due(4, x.far(0, 4));
        due(2, x.far(0, 5));
        due(5, x.tunnel(0, 1, 0));
    }

    /** MEETING: "of equal ones the lowest". */
    static void promise15_theLowestOfEqualMeetings() {
        RerouteHouse x = Edges.net(6, 0, 1, 1, 0, 2, 1, 2, 5, 1, 5, 1, 1, 0, 3, 1, 3, 4, 1, 4, 1, 1);
        due(0b110000, x.space(0, 1, 1) & x.space(0, 1, 2));
        due(4, x.tunnel(0, 1, 0));
    }

    /** BRIDGE: "FAR of s, p and the COST are least", both together. */
    static void promise15_theLeastBridge() {
        RerouteHouse x = Edges.net(5, 0, 1, 1, 1, 2, 1, 0, 3, 1, 3, 2, 9, 0, 4, 3, 4, 2, 6);
        due(NONE, x.tunnel(0, 1, 0));
        // by 3: 1 and 9, by 4: 3 and 6
        due(4, x.tunnel(0, 1, 1));
        due(2, x.tunnel(0, 1, 2));
    }

    /** BRIDGE: "of equal ones the lowest p". */
    static void promise15_theLowestFirstEndOfEqualBridges() {
        RerouteHouse x = Edges.net(5, 0, 1, 1, 1, 2, 1, 0, 4, 3, 4, 2, 7, 0, 3, 1, 3, 2, 9);
        due(3, x.tunnel(0, 1, 1));
        due(2, x.tunnel(0, 1, 2));
    }

    /** BRIDGE: "then q". */
    static void promise15_theLowestSecondEndOfEqualBridges() {
        RerouteHouse x = Edges.net(5, 0, 1, 1, 1, 4, 1, 1, 2, 1, 0, 3, 1, 3, 4, 9, 3, 2, 9);
        due(3, x.tunnel(0, 1, 1));
        due(2, x.tunnel(0, 1, 2));
        x.cost(4, 8);
        due(3, x.tunnel(0, 1, 1));
        due(4, x.tunnel(0, 1, 2));
    }

    /** The NODE 0 may be p or q, and the MEETING. */
    static void promise15_theLowestNode() {
        RerouteHouse x = Edges.ring(5, 2);
        due(4, x.tunnel(3, 2, 1));
        due(0, x.tunnel(3, 2, 2));
        due(0, x.tunnel(3, 2, 0));
        due(0, x.tunnel(1, 2, 1));
        due(4, x.tunnel(1, 2, 2));
    }

    /** Of twelve NODES 11 is the last: the number behind it is none. */
    static void promise15_noNodeBehindTheLastOfTwelve() {
        RerouteHouse x = Edges.full();
        for (int what = 0; what < 3; what++) {
            due(NONE, x.tunnel(12, 0, what));
            due(NONE, x.tunnel(0, 12, what));
        }
    }

    /** "NONE: others": what is none of 0 to 2. */
    static void promise15_otherWhats() {
        RerouteHouse x = Edges.ring(5, 2);
        due(NONE, x.tunnel(0, 1, 3));
        due(NONE, x.tunnel(0, 1, -1));
        for (int what : Edges.outside(0, 2)) {
            due(NONE, x.tunnel(0, 1, what));
        }
    }

    /** "NONE: others": what is no NODE, one and the same, no way. */
    static void promise15_otherNodes() {
        RerouteHouse x = Edges.ring(5, 2);
        for (int what = 0; what < 3; what++) {
            for (int v : Edges.outside(0, 4)) {
                due(NONE, x.tunnel(v, 1, what));
                due(NONE, x.tunnel(1, v, what));
            }
            due(NONE, x.tunnel(1, 1, what));
            due(NONE, Edges.net(4, 0, 1, 1, 1, 2, 1, 2, 0, 1).tunnel(0, 3, what));
        }
    }

    // Promise 16

    /** "else 0". */
    static void promise16_zeroIfNothingHelps() {
        due(0, Edges.net(2, 0, 1, 5).repair(0, 1));
        due(0, Edges.line(12, 1).repair(5, 11));
    }

    /** "1 ALTERNATE, if there is one", though there is a MEETING and a BRIDGE. */
    static void promise16_anAlternateGoesAhead() {
        RerouteHouse x = Edges.ring(3, 1);
        due(1, x.tunnel(0, 1, 0));
        due(1, x.tunnel(0, 1, 1));
        due(1, x.repair(0, 1));
    }

    /** "else 2 MEETING", though there is a BRIDGE. */
    static void promise16_thenAMeeting() {
        RerouteHouse x = Edges.ring(5, 2);
        due(4, x.tunnel(0, 1, 1));
        due(2, x.repair(0, 1));
    }

    /** "else 3 BRIDGE". */
    static void promise16_thenABridge() {
        due(3, bridged().repair(0, 1));
    }

    /** "NONE: s has no NEXT for d", not 0. */
    static void promise16_withoutANext() {
        RerouteHouse x = Edges.net(4, 0, 1, 1, 2, 3, 1);
        due(NONE, x.repair(0, 0));
        due(NONE, x.repair(0, 2));
        due(NONE, x.repair(3, 1));
        due(NONE, new RerouteHouse().repair(0, 1));
    }

    /** "NONE: others". */
    static void promise16_others() {
        RerouteHouse x = Edges.ring(5, 2);
        for (int v : Edges.outside(0, 4)) {
            due(NONE, x.repair(v, 1));
            due(NONE, x.repair(1, v));
            due(NONE, x.repair(v, v));
        }
    }

    /** A REPAIR is prepared before anything is DOWN. */
    static void promise16_whatIsDownDoesNotCount() {
        RerouteHouse x = Edges.ring(3, 1);
        x.down(2, 2);
        due(1, x.repair(0, 1));
        x.down(2, 0);
        due(1, x.repair(0, 1));
    }

    /** Of twelve NODES 11 is the last: the number behind it is none. */
    static void promise16_noNodeBehindTheLastOfTwelve() {
        RerouteHouse x = Edges.full();
        due(NONE, x.repair(12, 0));
        due(NONE, x.repair(0, 12));
    }

    // Promise 17

    /** "unlike". */
    static void promise17_oneAndTheSame() {
        RerouteHouse x = Edges.ring(3, 1);
        for (int what = 0; what < 4; what++) {
            due(NONE, x.send(1, 1, what));
        }
    }

    /** "NONE: others": what is no NODE. */
    static void promise17_otherNodes() {
        RerouteHouse x = Edges.ring(3, 1);
        for (int v : Edges.outside(0, 2)) {
            for (int what = 0; what < 4; what++) {
                due(NONE, x.send(v, 1, what));
                due(NONE, x.send(1, v, what));
            }
        }
    }

    /** "NONE: others": what is none of 0 to 3. */
    static void promise17_otherWhats() {
        RerouteHouse x = Edges.ring(3, 1);
        due(NONE, x.send(0, 1, 4));
        due(NONE, x.send(0, 1, -1));
        for (int what : Edges.outside(0, 3)) {
            due(NONE, x.send(0, 1, what));
        }
    }

    /** Of twelve NODES 11 is the last: the number behind it is none. */
    static void promise17_noNodeBehindTheLastOfTwelve() {
        RerouteHouse x = Edges.full();
        for (int what = 0; what < 4; what++) {
            due(NONE, x.send(12, 0, what));
            due(NONE, x.send(0, 12, what));
        }
    }

    /** "none of them a NODE that is DOWN". */
    static void promise17_notFromNorToANodeThatIsDown() {
        RerouteHouse x = Edges.ring(5, 1);
        x.down(2, 1);
        for (int what = 0; what < 4; what++) {
            due(NONE, x.send(1, 3, what));
            due(NONE, x.send(3, 1, what));
        }
        due(0, x.send(3, 4, 0));
        x.down(0, 1);
        due(0, x.send(1, 3, 0));
    }

    /** That number DOWN as a LINK or as a GROUP is no NODE. */
    static void promise17_aLinkOrGroupOfThatNumberIsNoNode() {
        RerouteHouse x = Edges.ring(5, 1);
        x.down(1, 1);
        due(0, x.send(1, 0, 0));
        x.down(3, 1);
        due(0, x.send(1, 0, 0));
        due(0, x.send(0, 1, 0));
    }

    /** "LOST, too, if a has no NEXT for d": at once, REPAIRED nowhere. */
    static void promise17_lostWithoutANext() {
        RerouteHouse x = Edges.net(4, 0, 1, 1, 2, 3, 1);
        due(1, x.send(0, 2, 0));
        due(0, x.send(0, 2, 1));
        due(NONE, x.send(0, 2, 2));
        due(0, x.send(0, 2, 3));
        x.down(2, 1);
        due(1, x.send(0, 2, 0));
        due(NONE, x.send(0, 2, 2));
    }

    /** "NONE: nowhere", where it goes by NEXT all along. */
    static void promise17_repairedNowhere() {
        RerouteHouse x = Edges.line(12, 99);
        due(0, x.send(0, 11, 0));
        due(11, x.send(0, 11, 1));
        due(NONE, x.send(0, 11, 2));
        due(1089, x.send(0, 11, 3));
    }

    /** A LINK that is DOWN off its way does not matter. */
    static void promise17_downElsewhere() {
        RerouteHouse x = Edges.ring(5, 2);
        x.down(1, 3);
        due(0, x.send(0, 2, 0));
        due(NONE, x.send(0, 2, 2));
        due(4, x.send(0, 2, 3));
    }

    /** "0: LOST": where no REPAIR is, it was REPAIRED there nevertheless. */
    static void promise17_lostWithoutARepair() {
        RerouteHouse x = Edges.line(4, 3);
        x.down(1, 2);
        due(1, x.send(0, 3, 0));
        due(2, x.send(0, 3, 1));
        due(2, x.send(0, 3, 2));
        due(6, x.send(0, 3, 3));
    }

    /** "1: to the ALTERNATE (LOST, if that LINK is DOWN)". */
    static void promise17_lostIfTheAlternateIsDownToo() {
        RerouteHouse x = fan();
        x.groups(0, 1);
        x.groups(2, 1);
        x.groups(4, 1);
        x.groups(6, 1);
        x.down(3, 0);
        due(2, x.alternate(0, 5));
        due(1, x.send(0, 5, 0));
        due(0, x.send(0, 5, 1));
        due(0, x.send(0, 5, 2));
        due(0, x.send(0, 5, 3));
        x.groups(6, 0);
        // now 4 is RISK-SAFE and goes ahead
        due(0, x.send(0, 5, 0));
        due(2, x.send(0, 5, 1));
    }

    /** .. though another one that is LOOP-FREE is not DOWN. */
    static void promise17_noOtherAlternateIsTried() {
        RerouteHouse x = Edges.net(5, 0, 1, 1, 1, 2, 1, 0, 3, 1, 3, 1, 1, 0, 4, 99, 4, 2, 99);
        x.groups(0, 1);
        x.groups(4, 1);
        x.down(3, 0);
        due(0b11000, x.ones(0, 2, 0));
        due(4, x.alternate(0, 2));
        due(1, x.send(0, 2, 0));
        dueTrace(x, 0, 2, 0);
        x.down(1, 0);
        dueTrace(x, 0, 2, 0, 4, 2);
    }

    /** "(once; a second time it is LOST)", though there would be an ALTERNATE. */
    static void promise17_aSecondTimeItIsLost() {
        RerouteHouse x = Edges.net(6, 0, 1, 1, 1, 5, 1, 0, 2, 2, 2, 4, 1, 4, 5, 1, 2, 3, 1, 3, 5, 2);
        x.groups(0, 1);
        x.groups(3, 1);
        x.down(3, 0);
        due(2, x.alternate(0, 5));
        due(3, x.alternate(2, 5));
        due(1, x.send(0, 5, 0));
        due(1, x.send(0, 5, 1));
        due(0, x.send(0, 5, 2));
        due(2, x.send(0, 5, 3));
        // from 2 itself it is the first time
        due(0, x.send(2, 5, 0));
        due(2, x.send(2, 5, 2));
        dueTrace(x, 2, 5, 2, 3, 5);
    }

    /** "2: to the MEETING m, first: if m is REACHED of s by NEXT for m", not to a lower n that comes to it, too. */
    static void promise17_toAMeetingThatItReachesItself() {
        RerouteHouse x = Edges.net(6, 0, 1, 3, 0, 4, 1, 4, 5, 1, 5, 1, 3, 0, 2, 1, 2, 5, 2);
        due(2, x.repair(0, 1));
        due(5, x.tunnel(0, 1, 0));
        due(1, x.space(0, 1, 0) >> 5 & 1);
        x.down(1, 0);
        due(0, x.send(0, 1, 0));
        dueTrace(x, 0, 1, 0, 4, 5, 1);
        due(5, x.send(0, 1, 3));
    }

    /** "else to the lowest n by which it is REACHED", though another one is nearer. */
    static void promise17_toTheLowestByWhichAMeetingIsReached() {
        RerouteHouse x = Edges.net(8, 0, 1, 2, 0, 6, 2, 6, 7, 2, 7, 2, 2, 2, 1, 2, 0, 4, 3, 4, 5, 2, 5, 2, 2);
        // 0 is as far from 2 by LINK 0 and 1 (2 and 2), so it does not reach 2 itself; 4 and 6 do
        due(2, x.repair(0, 1));
        due(2, x.tunnel(0, 1, 0));
        due(0, x.space(0, 1, 0) >> 2 & 1);
        x.down(1, 0);
        dueTrace(x, 0, 1, 0, 4, 5, 2, 1);
        due(9, x.send(0, 1, 3));
        // now 4 comes to 2 as well over 0 and LINK 0
        x.cost(6, 9);
        due(2, x.tunnel(0, 1, 0));
        dueTrace(x, 0, 1, 0, 6, 7, 2, 1);
        due(8, x.send(0, 1, 3));
    }

    /** "Whatever LINK is DOWN that it should go by on a REPAIR's way: LOST": the first one to the MEETING. */
    static void promise17_lostOnTheFirstLinkToAMeeting() {
        RerouteHouse x = Edges.ring(5, 2);
        x.groups(0, 8);
        x.groups(4, 8);
        x.down(3, 3);
        due(2, x.repair(0, 1));
        due(1, x.send(0, 1, 0));
        due(0, x.send(0, 1, 1));
        due(0, x.send(0, 1, 2));
    }

    /** .. a later one to the MEETING. */
    static void promise17_lostOnALaterLinkToAMeeting() {
        RerouteHouse x = Edges.ring(5, 2);
        x.groups(0, 8);
        x.groups(3, 8);
        x.down(3, 3);
        due(1, x.send(0, 1, 0));
        dueTrace(x, 0, 1, 0, 4);
        due(0, x.send(0, 1, 2));
        due(2, x.send(0, 1, 3));
    }

    /** .. one behind the MEETING, where it goes on by NEXT. */
    static void promise17_lostBehindAMeeting() {
        RerouteHouse x = Edges.ring(5, 2);
        x.groups(0, 8);
        x.groups(1, 8);
        x.down(3, 3);
        due(1, x.send(0, 1, 0));
        dueTrace(x, 0, 1, 0, 4, 3, 2);
        due(0, x.send(0, 1, 2));
    }

    /** "3: likewise to p, then by the LINK to q, then on for d". */
    static void promise17_overABridge() {
        RerouteHouse x = bridged();
        x.down(1, 0);
        due(0, x.send(0, 1, 0));
        dueTrace(x, 0, 1, 0, 3, 2, 1);
        due(0, x.send(0, 1, 2));
        due(12, x.send(0, 1, 3));
    }

    /** .. whose first LINK is DOWN. */
    static void promise17_lostOnTheWayToABridge() {
        RerouteHouse x = bridged();
        x.groups(0, 1);
        x.groups(3, 1);
        x.down(3, 0);
        due(1, x.send(0, 1, 0));
        dueTrace(x, 0, 1, 0);
        due(0, x.send(0, 1, 2));
    }

    /** .. which is DOWN itself. */
    static void promise17_lostAtABridge() {
        RerouteHouse x = bridged();
        x.groups(0, 1);
        x.groups(2, 1);
        x.down(3, 0);
        due(1, x.send(0, 1, 0));
        dueTrace(x, 0, 1, 0, 3);
        due(1, x.send(0, 1, 3));
    }

    /** .. behind which a LINK is DOWN. */
    static void promise17_lostBehindABridge() {
        RerouteHouse x = bridged();
        x.groups(0, 1);
        x.groups(1, 1);
        x.down(3, 0);
        due(1, x.send(0, 1, 0));
        dueTrace(x, 0, 1, 0, 3, 2);
        due(11, x.send(0, 1, 3));
    }

    /** "It ARRIVES as soon as it is at d (on a REPAIR's way, too)": the ALTERNATE is d. */
    static void promise17_arrivesAtAnAlternate() {
        RerouteHouse x = Edges.net(3, 0, 1, 1, 1, 2, 1, 0, 2, 3);
        x.down(1, 0);
        due(0, x.send(0, 2, 0));
        dueTrace(x, 0, 2, 0, 2);
        due(3, x.send(0, 2, 3));
    }

    /** .. q of the BRIDGE is d. */
    static void promise17_arrivesBehindABridge() {
        RerouteHouse x = longWayRound();
        x.down(1, 10);
        due(3, x.repair(10, 11));
        due(0, x.tunnel(10, 11, 1));
        due(11, x.tunnel(10, 11, 2));
        due(0, x.send(10, 11, 0));
        due(11, x.send(10, 11, 1));
        due(109, x.send(10, 11, 3));
    }

    /** "if it is not there behind 40 LINKS, it goes ROUND": the longest ones are there long before. */
    static void promise17_longWaysArriveAndDoNotGoRound() {
        RerouteHouse x = longWayRound();
        x.down(1, 10);
        due(0, x.send(0, 11, 0));
        due(21, x.send(0, 11, 1));
        due(10, x.send(0, 11, 2));
        due(119, x.send(0, 11, 3));
    }

    /** "(a NODE sees its own LINKS)": only there it is REPAIRED, not ahead. */
    static void promise17_repairedWhereTheLinkIsSeen() {
        RerouteHouse x = Edges.ring(5, 2);
        x.down(1, 0);
        due(1, x.send(2, 0, 2));
        dueTrace(x, 2, 0, 2, 1, 2, 3, 4, 0);
        due(10, x.send(2, 0, 3));
    }

    /** A NODE that is DOWN, past which the ALTERNATE leads. */
    static void promise17_pastANodeThatIsDown() {
        RerouteHouse x = fan();
        x.down(2, 1);
        due(0, x.send(0, 5, 0));
        due(0, x.send(0, 5, 2));
        dueTrace(x, 0, 5, 0, 2, 5);
        // an ALTERNATE that is not NODE-SAFE leads to it: LOST
        RerouteHouse y = Edges.net(4, 0, 1, 1, 1, 3, 1, 0, 2, 5, 2, 1, 1);
        y.down(2, 1);
        due(1, y.send(0, 3, 0));
        dueTrace(y, 0, 3, 0, 2);
    }

    /** A PACKET leaves nothing behind: the same one fares alike, and all is as it was. */
    static void promise17_sendingChangesNothing() {
        RerouteHouse x = Edges.ring(5, 2);
        x.down(1, 0);
        String before = Edges.state(x);
        for (int time = 0; time < 3; time++) {
            due(4, x.send(0, 1, 1));
            due(8, x.send(0, 1, 3));
            due(NONE, x.send(3, 4, 2));
        }
        due(before, Edges.state(x));
    }

    // Promise 18

    /** "0: a". */
    static void promise18_theFirstIsItself() {
        RerouteHouse x = Edges.line(12, 1);
        due(0, x.trace(0, 11, 0));
        due(11, x.trace(11, 0, 0));
    }

    /** The last one is d, if it ARRIVES; "none such" behind it. */
    static void promise18_theLastIsTheGoal() {
        RerouteHouse x = Edges.line(12, 1);
        due(11, x.trace(0, 11, 11));
        due(NONE, x.trace(0, 11, 12));
    }

    /** The longest trace, and behind it. */
    static void promise18_aLongTrace() {
        RerouteHouse x = longWayRound();
        x.down(1, 10);
        dueTrace(x, 0, 11, 0, 1, 2, 3, 4, 5, 6, 7, 8, 9, 10, 9, 8, 7, 6, 5, 4, 3, 2, 1, 0, 11);
        for (int i = 22; i < 45; i++) {
            due(NONE, x.trace(0, 11, i));
        }
    }

    /** After a long one a short one has nothing behind it. */
    static void promise18_nothingOfAnEarlierTraceIsLeft() {
        RerouteHouse x = longWayRound();
        x.down(1, 10);
        due(11, x.trace(0, 11, 21));
        due(1, x.trace(0, 1, 1));
        due(NONE, x.trace(0, 1, 2));
    }

    /** Where it is LOST it ends. */
    static void promise18_endsWhereItIsLost() {
        RerouteHouse x = Edges.line(4, 3);
        x.down(1, 1);
        due(0, x.trace(0, 3, 0));
        due(1, x.trace(0, 3, 1));
        due(NONE, x.trace(0, 3, 2));
    }

    /** Without a NEXT it is at a, and nowhere else. */
    static void promise18_withoutANext() {
        RerouteHouse x = Edges.net(4, 0, 1, 1, 2, 3, 1);
        due(0, x.trace(0, 2, 0));
        due(NONE, x.trace(0, 2, 1));
    }

    /** "NONE: none such": below 0, far outside. */
    static void promise18_noneSuch() {
        RerouteHouse x = Edges.line(12, 1);
        due(NONE, x.trace(0, 11, -1));
        for (int i : Edges.outside(0, 11)) {
            due(NONE, x.trace(0, 11, i));
        }
    }

    /** "likewise": unlike, NODES. */
    static void promise18_others() {
        RerouteHouse x = Edges.ring(3, 1);
        due(NONE, x.trace(1, 1, 0));
        for (int v : Edges.outside(0, 2)) {
            due(NONE, x.trace(v, 1, 0));
            due(NONE, x.trace(1, v, 0));
            due(NONE, x.trace(v, v, 0));
        }
        due(NONE, x.trace(MIN_VALUE, MAX_VALUE, MIN_VALUE));
    }

    /** Of twelve NODES 11 is the last: the number behind it is none. */
    static void promise18_noNodeBehindTheLastOfTwelve() {
        RerouteHouse x = Edges.full();
        due(NONE, x.trace(12, 0, 0));
        due(NONE, x.trace(0, 12, 0));
    }

    /** "likewise": "none of them a NODE that is DOWN". */
    static void promise18_notFromNorToANodeThatIsDown() {
        RerouteHouse x = Edges.ring(3, 1);
        x.down(2, 1);
        due(NONE, x.trace(1, 0, 0));
        due(NONE, x.trace(0, 1, 0));
        due(0, x.trace(0, 2, 0));
        x.down(1, 1);
        due(1, x.trace(1, 0, 0));
    }
}
