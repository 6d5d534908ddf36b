import static java.lang.Integer.MAX_VALUE;
import static java.lang.Integer.MIN_VALUE;

/** Boundary sentences about what comes behind a LINK, and about the whole network: promises 19 to 28, one by one. */
public final class Edges19To28Test {
    private static final int NONE = Edges.NONE;

    public static void main(String[] args) throws IllegalAccessException {
        Edges.run(Edges19To28Test.class, 19, 28);
    }

    private static void due(Object want, Object got) {
        Edges.due(want, got);
    }

    /** A triangle of 0, 1, 2 (LINKS 0, 1, 2) and 3, which hangs on 2 by LINK 3. */
    private static RerouteHouse kite() {
        return Edges.net(4, 0, 1, 1, 1, 2, 1, 2, 0, 1, 2, 3, 1);
    }

    private static void dueCovered(RerouteHouse x, int... pairs) {
        for (int what = 0; what < 8; what++) {
            due(pairs[what], x.covered(what));
        }
    }

    // Promise 19

    /** "0 of one and the same", BEHIND a LINK, too. */
    static void promise19_oneAndTheSame() {
        RerouteHouse x = Edges.net(3, 0, 1, 5);
        for (int v = 0; v < 3; v++) {
            due(0, x.behind(0, v, v));
        }
    }

    /** "none": the LINK parts them. */
    static void promise19_noneIfTheLinkPartsThem() {
        RerouteHouse x = kite();
        due(NONE, x.behind(3, 2, 3));
        due(NONE, x.behind(3, 3, 0));
        due(1, x.behind(3, 2, 0));
    }

    /** "none": there was no way before. */
    static void promise19_noneIfThereWasNoWay() {
        RerouteHouse x = Edges.net(3, 0, 1, 5);
        due(NONE, x.behind(0, 0, 2));
        due(NONE, x.behind(0, 2, 0));
    }

    /** A LINK off the way, or one beside a way as short, changes nothing. */
    static void promise19_asFarAsBefore() {
        RerouteHouse x = Edges.ring(4, 1);
        due(1, x.behind(2, 0, 1));
        due(2, x.behind(0, 0, 2));
    }

    /** The longest: 11 LINKS of 99 instead of one. */
    static void promise19_theLongestWayRound() {
        RerouteHouse x = Edges.ring(12, 99);
        due(1089, x.behind(0, 0, 1));
        due(1089, x.behind(11, 0, 11));
        due(99, x.behind(0, 11, 0));
    }

    /** "NONE: others": numbers that no LINK has. */
    static void promise19_otherLinks() {
        RerouteHouse x = Edges.house();
        for (int link : Edges.outside(0, 4)) {
            due(NONE, x.behind(link, 0, 1));
            due(NONE, x.behind(link, 0, 0));
        }
        due(NONE, new RerouteHouse().behind(0, 0, 0));
        due(NONE, new RerouteHouse().behind(-1, 0, 0));
        due(0, Edges.full().behind(23, 1, 1));
        due(NONE, Edges.full().behind(24, 1, 1));
    }

    /** "NONE: others": what is no NODE. */
    static void promise19_otherNodes() {
        RerouteHouse x = Edges.house();
        for (int v : Edges.outside(0, 3)) {
            due(NONE, x.behind(0, v, 1));
            due(NONE, x.behind(0, 1, v));
            due(NONE, x.behind(0, v, v));
        }
    }

    /** "FAR, NEXT without it", and with all others, whatever is DOWN. */
    static void promise19_whatIsDownDoesNotCount() {
        RerouteHouse x = Edges.ring(3, 1);
        x.down(1, 1);
        due(2, x.behind(0, 0, 1));
        x.down(2, 2);
        due(2, x.behind(0, 0, 1));
    }

    /** Of twelve NODES 11 is the last: the number behind it is none. */
    static void promise19_noNodeBehindTheLastOfTwelve() {
        RerouteHouse x = Edges.full();
        due(NONE, x.behind(0, 12, 0));
        due(NONE, x.behind(0, 0, 12));
        due(NONE, x.behind(0, 12, 12));
    }

    // Promise 20

    /** One and the same has no NEXT. */
    static void promise20_oneAndTheSame() {
        RerouteHouse x = kite();
        for (int v = 0; v < 4; v++) {
            due(NONE, x.nextBehind(0, v, v));
        }
    }

    /** "none": the LINK parts them, or there was no way. */
    static void promise20_none() {
        RerouteHouse x = kite();
        due(NONE, x.nextBehind(3, 2, 3));
        due(NONE, x.nextBehind(3, 0, 3));
        due(NONE, x.nextBehind(3, 3, 2));
        due(NONE, Edges.net(3, 0, 1, 1).nextBehind(0, 0, 2));
    }

    /** The LINK itself is not gone by, though it would be as short. */
    static void promise20_notByTheLinkItself() {
        RerouteHouse x = Edges.net(3, 0, 1, 2, 0, 2, 1, 2, 1, 1);
        due(1, x.next(0, 1));
        due(2, x.nextBehind(0, 0, 1));
        due(1, x.nextBehind(1, 0, 1));
    }

    /** "the lowest" of those that are left. */
    static void promise20_theLowestOfThoseLeft() {
        RerouteHouse x = Edges.net(5, 0, 1, 1, 1, 4, 1, 0, 3, 1, 3, 4, 1, 0, 2, 1, 2, 4, 1);
        due(1, x.next(0, 4));
        due(2, x.nextBehind(0, 0, 4));
        due(2, x.nextBehind(1, 0, 4));
        due(1, x.nextBehind(4, 0, 4));
    }

    /** "NONE: others". */
    static void promise20_others() {
        RerouteHouse x = Edges.house();
        for (int link : Edges.outside(0, 4)) {
            due(NONE, x.nextBehind(link, 0, 1));
        }
        for (int v : Edges.outside(0, 3)) {
            due(NONE, x.nextBehind(0, v, 1));
            due(NONE, x.nextBehind(0, 1, v));
            due(NONE, x.nextBehind(0, v, v));
        }
        due(NONE, new RerouteHouse().nextBehind(0, 0, 1));
        due(NONE, Edges.full().nextBehind(24, 0, 1));
    }

    /** Of twelve NODES 11 is the last: the number behind it is none. */
    static void promise20_noNodeBehindTheLastOfTwelve() {
        RerouteHouse x = Edges.full();
        due(NONE, x.nextBehind(0, 12, 0));
        due(NONE, x.nextBehind(0, 0, 12));
    }

    // Promise 21

    /** A LINK on no WAY hits none. */
    static void promise21_aLinkOnNoWay() {
        RerouteHouse x = Edges.net(3, 0, 1, 1, 1, 2, 1, 0, 2, 3);
        for (int d = 0; d < 3; d++) {
            due(0, x.hit(2, d));
        }
    }

    /** d itself is never HIT for d, nor are NODES without a way. */
    static void promise21_neitherTheGoalNorWhoHasNoWay() {
        RerouteHouse x = Edges.net(5, 0, 1, 1, 1, 2, 1, 3, 4, 1);
        due(0b00110, x.hit(0, 0));
        due(0b00001, x.hit(0, 1));
        due(0, x.hit(0, 3));
        due(0, x.hit(2, 0));
        due(0b10000, x.hit(2, 3));
    }

    /** "if that is on its WAY": not by another way that is as short. */
    static void promise21_byTheWayAlone() {
        RerouteHouse x = Edges.ring(4, 1);
        // 0 to 2 goes by 1, not by 3
        due(0b0011, x.hit(1, 2));
        due(0b1000, x.hit(2, 2));
    }

    /** All others are HIT, up to the NODE 11. */
    static void promise21_allOthers() {
        RerouteHouse x = Edges.line(12, 1);
        due(0xFFE, x.hit(0, 0));
        due(0x7FF, x.hit(10, 11));
        due(0x800, x.hit(10, 0));
    }

    /** "0: others". */
    static void promise21_others() {
        RerouteHouse x = Edges.line(4, 1);
        for (int link : Edges.outside(0, 2)) {
            due(0, x.hit(link, 0));
        }
        for (int d : Edges.outside(0, 3)) {
            due(0, x.hit(0, d));
        }
        due(0, new RerouteHouse().hit(0, 0));
        due(0, new RerouteHouse().hit(-1, -1));
        due(0, Edges.full().hit(24, 0));
    }

    /** HIT is by a LINK, whatever is DOWN. */
    static void promise21_whatIsDownDoesNotCount() {
        RerouteHouse x = Edges.line(3, 1);
        x.down(2, 1);
        due(0b110, x.hit(0, 0));
        x.down(0, 0);
        due(0b110, x.hit(0, 0));
    }

    /** Of twelve NODES 11 is the last: the number behind it is none. */
    static void promise21_noNodeBehindTheLastOfTwelve() {
        due(0, Edges.full().hit(0, 12));
    }

    // Promise 22

    /** "0, if it is NEXT of no other HIT one". */
    static void promise22_zeroIfNobodyGoesByIt() {
        RerouteHouse x = Edges.line(3, 1);
        due(0, x.holds(0, 0, 2));
        due(0, x.holds(0, 1, 0));
        due(0, x.holds(1, 1, 2));
    }

    /** "1 more than the greatest WAIT of those of which it is NEXT", not the first, the last, the sum. */
    static void promise22_oneMoreThanTheGreatest() {
        // to 0 by 1; 1 is NEXT of 2 (WAIT 0), of 3 (of 4, of 5: WAIT 2), of 6 (of 7: WAIT 1)
        RerouteHouse x = Edges.net(8, 0, 1, 1, 1, 2, 1, 1, 3, 1, 3, 4, 1, 4, 5, 1, 1, 6, 1, 6, 7, 1);
        due(0, x.holds(0, 0, 2));
        due(2, x.holds(0, 0, 3));
        due(1, x.holds(0, 0, 6));
        due(3, x.holds(0, 0, 1));
    }

    /** The longest WAIT: ten wait one for another. */
    static void promise22_theLongestWait() {
        RerouteHouse x = Edges.line(12, 1);
        for (int v = 1; v < 12; v++) {
            due(11 - v, x.holds(0, 0, v));
        }
        due(10, x.holds(0, NONE, 1));
        due(10, x.holds(10, 11, 10));
    }

    /** "NONE: not HIT": d itself, one that goes another way, one without a way. */
    static void promise22_notHit() {
        RerouteHouse x = Edges.net(5, 0, 1, 1, 1, 2, 1, 3, 4, 1);
        due(NONE, x.holds(0, 0, 0));
        due(NONE, x.holds(0, 2, 1));
        due(NONE, x.holds(0, 0, 3));
        due(NONE, x.holds(0, 3, 0));
    }

    /** "d NONE: of v, for all": the greatest of them. */
    static void promise22_forAll() {
        RerouteHouse x = Edges.line(5, 1);
        due(1, x.holds(1, 2, 1));
        due(2, x.holds(1, 0, 2));
        due(1, x.holds(1, NONE, 1));
        due(2, x.holds(1, NONE, 2));
        due(0, x.holds(1, NONE, 4));
        due(1, x.holds(1, NONE, 3));
    }

    /** WAIT of v: "the greatest for all d for which it is HIT (NONE: none)". */
    static void promise22_forAllButHitForNone() {
        RerouteHouse x = Edges.net(4, 0, 1, 1, 1, 2, 1, 0, 2, 9);
        due(NONE, x.holds(2, NONE, 0));
        due(NONE, x.holds(2, NONE, 1));
        due(NONE, x.holds(0, NONE, 3));
        due(0, x.holds(0, NONE, 2));
    }

    /** d NONE is -1 alone: other numbers below 0 are no NODES. */
    static void promise22_otherGoals() {
        RerouteHouse x = Edges.line(4, 1);
        due(2, x.holds(0, -1, 1));
        due(NONE, x.holds(0, -2, 1));
        for (int d : Edges.outside(-1, 3)) {
            due(NONE, x.holds(0, d, 1));
        }
    }

    /** "NONE: others", for one d and for all. */
    static void promise22_others() {
        RerouteHouse x = Edges.line(4, 1);
        for (int link : Edges.outside(0, 2)) {
            due(NONE, x.holds(link, 0, 1));
            due(NONE, x.holds(link, NONE, 1));
        }
        for (int v : Edges.outside(0, 3)) {
            due(NONE, x.holds(0, 0, v));
            due(NONE, x.holds(0, NONE, v));
        }
        due(NONE, new RerouteHouse().holds(0, NONE, 0));
        due(NONE, new RerouteHouse().holds(NONE, NONE, NONE));
        due(NONE, Edges.full().holds(24, NONE, 0));
    }

    /** Of twelve NODES 11 is the last: the number behind it is none. */
    static void promise22_noNodeBehindTheLastOfTwelve() {
        RerouteHouse x = Edges.full();
        due(NONE, x.holds(0, 12, 0));
        due(NONE, x.holds(0, 0, 12));
        due(NONE, x.holds(0, NONE, 12));
    }

    // Promise 23

    /** Nobody knows it: all go by the LINK "as if it were there". */
    static void promise23_nobodyKnows() {
        RerouteHouse x = Edges.ring(5, 2);
        for (int link = 0; link < 5; link++) {
            due(0, x.round(link, 0, 0));
        }
    }

    /** All know it: nothing goes round. */
    static void promise23_allKnow() {
        RerouteHouse x = Edges.ring(5, 2);
        for (int link = 0; link < 5; link++) {
            due(0, x.round(link, 0, 0b11111));
        }
    }

    /** "from v on": whoever comes to those that send to each other goes round, too, d does not. */
    static void promise23_allThatComeToIt() {
        RerouteHouse x = Edges.ring(12, 1);
        x.cost(6, 9);
        // 1 alone knows that LINK 0 is gone and sends back to 2; up to 6 all send by 1
        due(0b000001111110, x.round(0, 0, 0b10));
        due(0b000001111100, x.round(0, 0, 0b100));
        due(0, x.round(0, 0, 0b1000000));
    }

    /** "where there is no NEXT it ends": BEHIND the LINK there is none. */
    static void promise23_withoutANextItEnds() {
        RerouteHouse x = Edges.line(4, 1);
        due(0, x.round(0, 0, 0b0010));
        due(0, x.round(0, 0, 0b0100));
        due(0, x.round(0, 0, 0b1110));
    }

    /** .. or there never was one. */
    static void promise23_withoutAWayItEnds() {
        RerouteHouse x = Edges.net(5, 0, 1, 1, 1, 2, 1, 2, 0, 1);
        due(0, x.round(0, 3, 0));
        due(0, x.round(0, 3, 0b11111));
    }

    /** At d it ends, whether d knows it or not. */
    static void promise23_atTheGoalItEnds() {
        RerouteHouse x = Edges.ring(5, 2);
        due(0b00110, x.round(0, 0, 0b00010));
        due(0b00110, x.round(0, 0, 0b00011));
        due(0, x.round(0, 0, 0b00001));
    }

    /** "bits of no NODES do nothing". */
    static void promise23_bitsOfNoNodes() {
        RerouteHouse x = Edges.ring(5, 2);
        for (int bit = 5; bit < 32; bit++) {
            due(0, x.round(0, 0, 1 << bit));
            due(0b00110, x.round(0, 0, 0b00010 | 1 << bit));
        }
        due(0, x.round(0, 0, ~0b11111));
        due(0b00110, x.round(0, 0, ~0b11101));
        due(0, x.round(0, 0, -1));
        due(0, x.round(0, 0, MIN_VALUE));
        due(0, x.round(0, 0, MAX_VALUE));
    }

    /** "0: others". */
    static void promise23_others() {
        RerouteHouse x = Edges.ring(5, 2);
        for (int link : Edges.outside(0, 4)) {
            due(0, x.round(link, 0, 0b00010));
        }
        for (int d : Edges.outside(0, 4)) {
            due(0, x.round(0, d, 0b00010));
        }
        due(0, new RerouteHouse().round(0, 0, 1));
        due(0, Edges.full().round(24, 0, 2));
    }

    /** The NODE 0 may know it, and go round, as any other. */
    static void promise23_theLowestNode() {
        RerouteHouse x = Edges.ring(5, 2);
        // for 2 all of 0, 1 go by LINK 1; BEHIND it 1 goes by 0, 4, 3
        due(0b00011, x.round(1, 2, 0b00010));
        due(0, x.round(1, 2, 0b00001));
        due(0, x.round(1, 2, 0b00011));
    }

    /** Of twelve NODES 11 is the last: the number behind it is none. */
    static void promise23_noNodeBehindTheLastOfTwelve() {
        due(0, Edges.full().round(0, 12, 2));
    }

    // Promise 24

    /** "NONE for another what". */
    static void promise24_otherWhats() {
        RerouteHouse x = kite();
        due(NONE, x.covered(8));
        due(NONE, x.covered(-1));
        for (int what : Edges.outside(0, 7)) {
            due(NONE, x.covered(what));
        }
    }

    /** "0: with a way (unlike)": in both orders, none with itself. */
    static void promise24_pairsWithAWay() {
        due(2, Edges.net(2, 0, 1, 1).covered(0));
        due(132, Edges.line(12, 1).covered(0));
        due(8, Edges.net(6, 0, 1, 1, 1, 2, 1, 3, 4, 1).covered(0));
    }

    /** No pair has a way. */
    static void promise24_noPairAtAll() {
        dueCovered(new RerouteHouse(), 0, 0, 0, 0, 0, 0, 0, 0);
        dueCovered(Edges.net(12), 0, 0, 0, 0, 0, 0, 0, 0);
    }

    /** "4: by none", and none of them is SAFE. */
    static void promise24_coveredByNone() {
        dueCovered(Edges.line(12, 1), 132, 0, 0, 0, 132, 0, 0, 0);
        dueCovered(Edges.net(4, 0, 1, 1, 2, 3, 1), 4, 0, 0, 0, 4, 0, 0, 0);
    }

    /** "1 to 3: COVERED by 1 to 3": each pair by the one that goes ahead. */
    static void promise24_coveredByOneToThree() {
        // from 0 and 1 to 3 an ALTERNATE helps; who is at LINK 3 has none
        dueCovered(kite(), 12, 8, 0, 0, 4, 0, 8, 6);
        // the four pairs of a square's corners have an ALTERNATE, its sides a MEETING
        dueCovered(Edges.ring(4, 1), 12, 4, 8, 0, 0, 4, 4, 12);
        RerouteHouse x = Edges.net(4, 0, 1, 1, 1, 2, 1, 2, 3, 10, 3, 0, 1);
        due(3, x.repair(0, 1));
        due(12, x.covered(1) + x.covered(2) + x.covered(3) + x.covered(4));
        due(0, x.covered(4));
    }

    /** "5: with NODE-SAFE": where NEXT is d there is none. */
    static void promise24_nodeSafeOnes() {
        dueCovered(Edges.ring(3, 1), 6, 6, 0, 0, 0, 0, 6, 6);
    }

    /** "6: with RISK-SAFE ALTERNATES": it is the ALTERNATE that counts. */
    static void promise24_riskSafeOnes() {
        RerouteHouse x = Edges.ring(3, 1);
        x.groups(0, 1);
        x.groups(1, 1);
        // 0 and 2 have one LINK of the GROUP each, 1 has both
        due(4, x.covered(6));
        x.groups(2, 1);
        due(0, x.covered(6));
        due(6, x.covered(1));
    }

    /** "7: SAFE .. whichever LINK of its WAY is DOWN": one that is LOST is enough. */
    static void promise24_safeWhicheverLink() {
        RerouteHouse x = kite();
        due(1, x.repair(0, 3));
        // 0 to 3: LINK 2 may go, LINK 3 may not
        due(6, x.covered(7));
        x.link(3, 0, 1);
        due(12, x.covered(7));
    }

    /** SAFE: "alone", whatever is DOWN now, which stays so. */
    static void promise24_safeWhateverIsDownNow() {
        RerouteHouse x = Edges.ring(4, 1);
        due(12, x.covered(7));
        for (int what = 1; what <= 3; what++) {
            x.groups(0, 255);
            x.down(what, 1);
            due(12, x.covered(7));
            due(what, x.count(2));
            due(1, x.count(3));
        }
    }

    /** The largest networks: all pairs of twelve NODES. */
    static void promise24_twelveNodes() {
        RerouteHouse x = Edges.ring(12, 1);
        due(132, x.covered(0));
        due(0, x.covered(4));
        due(132, x.covered(7));
    }

    // Promise 25

    /** "NONE: others (unlike)". */
    static void promise25_oneAndTheSame() {
        RerouteHouse x = kite();
        for (int v = 0; v < 4; v++) {
            due(NONE, x.cut(v, v));
        }
    }

    /** "NONE: others". */
    static void promise25_others() {
        RerouteHouse x = kite();
        for (int v : Edges.outside(0, 3)) {
            due(NONE, x.cut(v, 0));
            due(NONE, x.cut(0, v));
            due(NONE, x.cut(v, v));
        }
    }

    /** Without a way none is needed: 0. */
    static void promise25_zeroWithoutAWay() {
        due(0, new RerouteHouse().cut(0, 1));
        RerouteHouse x = Edges.net(4, 0, 1, 1, 2, 3, 1);
        due(0, x.cut(0, 2));
        due(0, x.cut(3, 1));
    }

    /** One LINK that parts them, anywhere between. */
    static void promise25_oneThatPartsThem() {
        RerouteHouse x = kite();
        due(1, x.cut(0, 3));
        due(1, x.cut(3, 0));
        due(2, x.cut(0, 2));
        due(1, Edges.line(12, 1).cut(0, 11));
    }

    /** The most: eleven, by ten NODES between and a LINK of their own. */
    static void promise25_theMost() {
        RerouteHouse x = Edges.net(12, 0, 11, 1);
        for (int v = 1; v < 11; v++) {
            x.link(0, v, v);
            x.link(v, 11, 99);
        }
        due(21, x.count(1));
        due(11, x.cut(0, 11));
        due(11, x.cut(11, 0));
        due(2, x.cut(3, 7));
    }

    /** "the least LINKS (how many)": whatever they cost, and whatever is DOWN. */
    static void promise25_neitherCostsNorDownCount() {
        RerouteHouse x = Edges.ring(3, 99);
        due(2, x.cut(0, 1));
        x.down(1, 0);
        due(2, x.cut(0, 1));
        x.down(2, 0);
        due(2, x.cut(0, 1));
    }

    /** A first way that takes a LINK crosswise must not hide a second one. */
    static void promise25_crosswise() {
        due(2, Edges.net(6, 0, 1, 1, 1, 2, 1, 2, 5, 1, 0, 3, 1, 3, 2, 1, 1, 4, 1, 4, 5, 1).cut(0, 5));
        due(2, Edges.net(6, 0, 1, 1, 2, 1, 1, 2, 5, 1, 0, 3, 1, 3, 2, 1, 1, 4, 1, 4, 5, 1).cut(5, 0));
    }

    /** A LINK that one way takes, a second one gives back and a third one takes again. */
    static void promise25_thereAndBackAndThere() {
        int[] links = {4, 6, 1, 3, 5, 1, 9, 1, 1, 0, 8, 1, 6, 7, 1, 4, 5, 1, 8, 3, 1, 1, 5, 1, 1, 6, 1, 1, 0, 1, 3, 9, 1, 5, 7, 1, 6, 2, 1};
        // 6-1-9-3, 6-7-5-3, 6-4-5-1-0-8-3
        due(3, Edges.net(10, links).cut(6, 3));
        due(3, Edges.net(10, links).cut(3, 6));
    }

    /** Of twelve NODES 11 is the last: the number behind it is none. */
    static void promise25_noNodeBehindTheLastOfTwelve() {
        RerouteHouse x = Edges.full();
        due(4, x.cut(0, 11));
        due(NONE, x.cut(12, 0));
        due(NONE, x.cut(0, 12));
    }

    // Promise 26

    /** "NONE: others (unlike)". */
    static void promise26_oneAndTheSame() {
        RerouteHouse x = Edges.ring(4, 1);
        for (int v = 0; v < 4; v++) {
            due(NONE, x.spare(v, v));
        }
    }

    /** "NONE: others". */
    static void promise26_others() {
        RerouteHouse x = Edges.ring(4, 1);
        for (int v : Edges.outside(0, 3)) {
            due(NONE, x.spare(v, 0));
            due(NONE, x.spare(0, v));
            due(NONE, x.spare(v, v));
        }
    }

    /** "no way". */
    static void promise26_noWay() {
        due(NONE, new RerouteHouse().spare(0, 1));
        RerouteHouse x = Edges.net(4, 0, 1, 1, 2, 3, 1);
        due(NONE, x.spare(0, 2));
        due(NONE, x.spare(3, 1));
    }

    /** "none: some LINK parts them", though others do not. */
    static void promise26_someLinkPartsThem() {
        RerouteHouse x = kite();
        due(NONE, x.spare(2, 3));
        due(NONE, x.spare(0, 3));
        due(NONE, x.spare(3, 0));
        due(1, x.spare(0, 2));
    }

    /** 0, if there is a way as short by other LINKS. */
    static void promise26_zeroBesideAWayAsShort() {
        RerouteHouse x = Edges.ring(4, 1);
        due(0, x.spare(0, 2));
        due(0, x.spare(3, 1));
    }

    /** "at most, by any one LINK less": the worst of them, be it the first or the last. */
    static void promise26_theWorstLink() {
        RerouteHouse x = Edges.net(5, 0, 1, 1, 1, 2, 1, 0, 3, 3, 3, 1, 3, 1, 4, 2, 4, 2, 2);
        // without 0-1 6 instead of 1, without 1-2 4 instead of 1
        due(5, x.spare(0, 2));
        due(5, x.spare(2, 0));
        due(3, x.spare(1, 2));
    }

    /** The most: 11 LINKS of 99 instead of one of 1. */
    static void promise26_theMost() {
        RerouteHouse x = Edges.ring(12, 99);
        x.cost(11, 1);
        due(1088, x.spare(0, 11));
        due(1088, x.spare(11, 0));
    }

    /** What is DOWN does not count. */
    static void promise26_whatIsDownDoesNotCount() {
        RerouteHouse x = Edges.ring(3, 1);
        x.down(1, 1);
        due(1, x.spare(0, 1));
        x.down(2, 1);
        due(1, x.spare(0, 1));
    }

    /** Of twelve NODES 11 is the last: the number behind it is none. */
    static void promise26_noNodeBehindTheLastOfTwelve() {
        RerouteHouse x = Edges.full();
        due(NONE, x.spare(12, 0));
        due(NONE, x.spare(0, 12));
    }

    // Promise 27

    /** "NONE: some have no way to others": one alone is enough, also the last. */
    static void promise27_oneHasNoWay() {
        due(NONE, new RerouteHouse().centre());
        due(NONE, Edges.net(3, 0, 1, 1).centre());
        due(NONE, Edges.net(3, 1, 2, 1).centre());
        due(NONE, Edges.net(4, 0, 1, 1, 2, 3, 1).centre());
        RerouteHouse x = Edges.line(11, 1);
        due(5, x.centre());
        RerouteHouse y = Edges.net(12, 0, 1, 1, 0, 2, 1, 0, 3, 1, 0, 4, 1, 0, 5, 1, 0, 6, 1, 0, 7, 1, 0, 8, 1, 0, 9, 1, 0, 10, 1);
        due(NONE, y.centre());
        y.link(11, 0, 1);
        due(0, y.centre());
    }

    /** "of equal ones the lowest". */
    static void promise27_theLowestOfEqualOnes() {
        due(0, Edges.net(2, 0, 1, 9).centre());
        due(0, Edges.ring(12, 3).centre());
        due(5, Edges.line(12, 1).centre());
        due(1, Edges.net(4, 3, 1, 2, 1, 2, 2, 2, 0, 2).centre());
    }

    /** "the greatest FAR to others is least", not the sum, and up to the NODE 11. */
    static void promise27_theGreatestFarIsLeast() {
        RerouteHouse x = Edges.net(12);
        for (int v = 0; v < 11; v++) {
            x.link(v, 11, 99);
        }
        due(11, x.centre());
        // three hang on 0 nearby; 1 lies in the middle of the long way from 0 to 5
        RerouteHouse y = Edges.net(6, 0, 2, 1, 0, 3, 1, 0, 4, 1, 0, 1, 4, 1, 5, 5);
        due(1, y.centre());
    }

    /** The farthest NODES count, though they are 1089 apart. */
    static void promise27_theFarthestNodes() {
        due(5, Edges.line(12, 99).centre());
    }

    /** What is DOWN does not count. */
    static void promise27_whatIsDownDoesNotCount() {
        RerouteHouse x = Edges.line(3, 1);
        x.down(2, 1);
        due(1, x.centre());
        x.down(1, 0);
        due(1, x.centre());
    }

    // Promise 28

    /** "NONE for another what". */
    static void promise28_otherWhats() {
        RerouteHouse x = Edges.house();
        due(NONE, x.count(6));
        due(NONE, x.count(-1));
        for (int what : Edges.outside(0, 5)) {
            due(NONE, x.count(what));
        }
    }

    /** "0: NODES, 1: LINKS": the fewest and the most. */
    static void promise28_nodesAndLinks() {
        RerouteHouse x = new RerouteHouse();
        due(2, x.count(0));
        due(0, x.count(1));
        RerouteHouse y = Edges.full();
        due(12, y.count(0));
        due(24, y.count(1));
    }

    /** "2: what is DOWN (0 to 3), 3: which (0: nothing)". */
    static void promise28_whatIsDownAndWhich() {
        RerouteHouse x = Edges.full();
        int[][] told = {{1, 23}, {2, 11}, {3, 7}, {1, 0}, {2, 0}, {3, 0}};
        for (int[] one : told) {
            x.down(one[0], one[1]);
            due(one[0], x.count(2));
            due(one[1], x.count(3));
        }
        x.down(2, 11);
        x.down(0, 5);
        due(0, x.count(2));
        due(0, x.count(3));
    }

    /** "4: LINKS that are DOWN": none, one, all of a NODE, all there are. */
    static void promise28_linksThatAreDown() {
        RerouteHouse x = Edges.full();
        due(0, x.count(4));
        x.down(1, 23);
        due(1, x.count(4));
        x.down(2, 11);
        due(4, x.count(4));
        x.down(3, 7);
        due(0, x.count(4));
        for (int link = 0; link < 24; link++) {
            x.groups(link, 128);
            due(link + 1, x.count(4));
        }
        due(0, Edges.net(3, 0, 1, 1).count(4));
        RerouteHouse y = Edges.net(3, 0, 1, 1);
        y.down(2, 2);
        due(2, y.count(2));
        due(0, y.count(4));
    }

    /** "5: COSTS together": of none, of 24 of 99, of those that are DOWN, too. */
    static void promise28_costsTogether() {
        due(0, new RerouteHouse().count(5));
        RerouteHouse x = Edges.full();
        due(300, x.count(5));
        for (int link = 0; link < 24; link++) {
            x.cost(link, 99);
        }
        due(2376, x.count(5));
        x.down(2, 0);
        due(2376, x.count(5));
        x.nodes(12);
        due(0, x.count(5));
    }

    /** Questions change nothing, wrong ones neither. */
    static void promise28_questionsChangeNothing() {
        RerouteHouse x = Edges.house();
        String before = Edges.state(x);
        for (int n : new int[] {MIN_VALUE, -1, 0, 1, 3, 4, 12, MAX_VALUE}) {
            x.of(n, n);
            x.between(n, n);
            x.far(n, 0);
            x.next(0, n);
            Edges.wayOf(x, 0, n, n);
            x.ones(0, n, 3);
            x.alternate(n, 2);
            x.space(0, n, 1);
            x.tunnel(0, n, 2);
            x.repair(0, n);
            x.send(0, n, 0);
            x.trace(0, n, 1);
            x.behind(n, 0, 1);
            x.nextBehind(n, 0, 1);
            x.hit(n, 0);
            x.holds(n, NONE, 0);
            x.round(n, 0, n);
            x.covered(n);
            x.cut(0, n);
            x.spare(0, n);
            x.centre();
            x.count(n);
        }
        due(before, Edges.state(x));
    }
}
