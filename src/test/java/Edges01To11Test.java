import static java.lang.Integer.MAX_VALUE;
import static java.lang.Integer.MIN_VALUE;

/** Boundary sentences of the terms' first part and of promises 1 to 11, one by one. */
public final class Edges01To11Test {
    private static final int NONE = Edges.NONE;
    private static final int THROWN = Edges.THROWN;

    public static void main(String[] args) throws IllegalAccessException {
        Edges.run(Edges01To11Test.class, 1, 11);
    }

    private static void due(Object want, Object got) {
        Edges.due(want, got);
    }

    // Promise 1

    /** "The constants: NONE = -1". */
    static void promise01_noneIsMinusOne() {
        due(-1, RerouteHouse.NONE);
    }

    /** "Two NODES", "2 at first". */
    static void promise01_twoNodesAtFirst() {
        RerouteHouse x = new RerouteHouse();
        due(2, x.count(0));
        due(0, x.far(1, 1));
        due(NONE, x.far(2, 2));
        due(NONE, x.link(0, 2, 1));
        due(0, x.link(1, 0, 1));
    }

    /** "no LINK". */
    static void promise01_noLinkAtFirst() {
        RerouteHouse x = new RerouteHouse();
        due(0, x.count(1));
        due(0, x.count(5));
        due(NONE, x.between(0, 1));
        due(NONE, x.far(0, 1));
        for (int what = 0; what < 6; what++) {
            due(NONE, x.of(0, what));
        }
    }

    /** "or nothing (at first)" is DOWN. */
    static void promise01_nothingIsDownAtFirst() {
        RerouteHouse x = new RerouteHouse();
        due(0, x.count(2));
        due(0, x.count(3));
        due(0, x.count(4));
        due(1, x.send(0, 1, 0));
        x.link(0, 1, 1);
        due(0, x.of(0, 4));
        due(0, x.send(0, 1, 0));
    }

    /** What is told to one object is not told to another. */
    static void promise01_objectsAreApart() {
        RerouteHouse x = Edges.house();
        RerouteHouse y = new RerouteHouse();
        due(2, y.count(0));
        due(0, y.count(1));
        due(0, y.count(2));
        y.link(0, 1, 50);
        due(4, x.count(0));
        due(1, x.far(0, 1));
        due(50, y.far(0, 1));
    }

    /** "at most 512 calls after it has been made": the last of them still counts. */
    static void promise01_theLastOf512CallsIsAnswered() {
        RerouteHouse x = Edges.ring(3, 4);
        for (int call = 4; call < 511; call++) {
            x.cost(0, 1 + call % 8);
        }
        due(1 + 510 % 8, x.far(0, 1));
    }

    // Promise 2

    /** "NODES: 2": two are enough. */
    static void promise02_twoAreTheLeast() {
        RerouteHouse x = Edges.net(5);
        due(0, x.nodes(2));
        due(2, x.count(0));
    }

    /** "to 12": twelve are the most. */
    static void promise02_twelveAreTheMost() {
        RerouteHouse x = new RerouteHouse();
        due(0, x.nodes(12));
        due(12, x.count(0));
        due(0, x.link(11, 10, 3));
        due(3, x.far(10, 11));
        due(0, x.far(11, 11));
        due(NONE, x.far(12, 12));
    }

    /** Every number from 2 to 12 is taken. */
    static void promise02_allBetweenAreTaken() {
        RerouteHouse x = new RerouteHouse();
        for (int n = 2; n <= 12; n++) {
            due(0, x.nodes(n));
            due(n, x.count(0));
            due(0, x.far(n - 1, n - 1));
            due(NONE, x.far(n, n));
        }
    }

    /** "NONE: others": one too few. */
    static void promise02_oneIsTooFew() {
        RerouteHouse x = new RerouteHouse();
        due(NONE, x.nodes(1));
        due(NONE, x.nodes(0));
        due(2, x.count(0));
    }

    /** "NONE: others": one too many. */
    static void promise02_thirteenAreTooMany() {
        RerouteHouse x = new RerouteHouse();
        due(NONE, x.nodes(13));
        due(2, x.count(0));
    }

    /** "NONE: others", far outside; and what they leave as it was. */
    static void promise02_aRefusedNumberLeavesAllAsItWas() {
        RerouteHouse x = Edges.house();
        String before = Edges.state(x);
        for (int n : Edges.outside(2, 12)) {
            due(NONE, x.nodes(n));
        }
        due(before, Edges.state(x));
    }

    /** "how many LINKS there were": none. */
    static void promise02_answersNoLinksAsZero() {
        RerouteHouse x = new RerouteHouse();
        due(0, x.nodes(3));
        due(0, x.nodes(3));
    }

    /** "how many LINKS there were": as many as there may be. */
    static void promise02_answersTwentyFour() {
        RerouteHouse x = Edges.full();
        due(24, x.nodes(2));
        due(0, x.nodes(2));
    }

    /** "no LINK". */
    static void promise02_noLinkIsLeft() {
        RerouteHouse x = Edges.house();
        due(5, x.nodes(4));
        due(0, x.count(1));
        due(0, x.count(5));
        due(NONE, x.between(0, 1));
        due(NONE, x.far(0, 1));
        due(NONE, x.next(0, 1));
        due(NONE, x.of(0, 2));
        due(NONE, x.cost(0, 5));
        due(NONE, x.groups(0, 5));
        due(false, x.down(1, 0));
        due(0, x.cut(0, 1));
    }

    /** "nothing DOWN", whether a LINK, a NODE or a GROUP was. */
    static void promise02_nothingIsDownAfterwards() {
        for (int what = 1; what <= 3; what++) {
            RerouteHouse x = Edges.house();
            due(true, x.down(what, 1));
            x.nodes(4);
            due(0, x.count(2));
            due(0, x.count(3));
            due(0, x.link(0, 1, 1));
            x.link(1, 2, 1);
            x.groups(1, 2);
            due(0, x.count(4));
            due(0, x.send(0, 1, 0));
        }
    }

    /** LINKS of NODES that are no more do not come back with the NODES. */
    static void promise02_oldLinksDoNotComeBack() {
        RerouteHouse x = Edges.net(12, 10, 11, 4, 0, 11, 4);
        due(2, x.nodes(2));
        due(0, x.nodes(12));
        due(NONE, x.between(10, 11));
        due(NONE, x.far(0, 11));
        due(0, x.link(11, 10, 6));
        due(6, x.far(10, 11));
    }

    /** "GROUPS (none at first)" of a LINK that takes an old one's number. */
    static void promise02_oldGroupsDoNotComeBack() {
        RerouteHouse x = Edges.net(3, 0, 1, 1);
        x.groups(0, 255);
        x.nodes(3);
        x.link(0, 1, 1);
        due(0, x.of(0, 3));
    }

    // Promise 3

    /** "numbered as told". */
    static void promise03_numbersFollowOneAnother() {
        RerouteHouse x = Edges.net(12);
        for (int v = 0; v < 11; v++) {
            due(v, x.link(11 - v, 10 - v, 1));
        }
    }

    /** A refused LINK takes no number. */
    static void promise03_aRefusedLinkTakesNoNumber() {
        RerouteHouse x = Edges.net(3);
        due(0, x.link(0, 1, 1));
        due(NONE, x.link(0, 1, 1));
        due(NONE, x.link(1, 1, 1));
        due(NONE, x.link(1, 2, 0));
        due(NONE, x.link(1, 3, 1));
        due(1, x.link(1, 2, 1));
        due(2, x.count(1));
    }

    /** "each between two unlike NODES". */
    static void promise03_oneAndTheSameIsRefused() {
        RerouteHouse x = Edges.net(12);
        for (int v = 0; v < 12; v++) {
            due(NONE, x.link(v, v, 1));
        }
        due(0, x.count(1));
        due(0, x.far(5, 5));
    }

    /** "NONE: others": the first is no NODE. */
    static void promise03_theFirstMustBeANode() {
        RerouteHouse x = Edges.house();
        String before = Edges.state(x);
        for (int a : Edges.outside(0, 3)) {
            due(NONE, x.link(a, 1, 1));
        }
        due(before, Edges.state(x));
    }

    /** "NONE: others": the second is no NODE. */
    static void promise03_theSecondMustBeANode() {
        RerouteHouse x = Edges.house();
        String before = Edges.state(x);
        for (int b : Edges.outside(0, 3)) {
            due(NONE, x.link(1, b, 1));
        }
        due(before, Edges.state(x));
    }

    /** Both are no NODES, alike or not. */
    static void promise03_bothMustBeNodes() {
        RerouteHouse x = Edges.net(4);
        due(NONE, x.link(-1, -1, 1));
        due(NONE, x.link(4, 4, 1));
        due(NONE, x.link(4, 5, 1));
        due(NONE, x.link(MIN_VALUE, MAX_VALUE, 1));
        due(NONE, x.link(MAX_VALUE, MIN_VALUE, MAX_VALUE));
        due(0, x.count(1));
    }

    /** "a COST, 1". */
    static void promise03_theLeastCostIsOne() {
        RerouteHouse x = new RerouteHouse();
        due(0, x.link(0, 1, 1));
        due(1, x.far(0, 1));
    }

    /** "to 99". */
    static void promise03_theGreatestCostIs99() {
        RerouteHouse x = new RerouteHouse();
        due(0, x.link(0, 1, 99));
        due(99, x.far(0, 1));
    }

    /** "NONE: others": a COST of none, below, above, far outside. */
    static void promise03_otherCostsAreRefused() {
        RerouteHouse x = Edges.house();
        String before = Edges.state(x);
        due(NONE, x.link(1, 3, 0));
        due(NONE, x.link(1, 3, 100));
        for (int cost : Edges.outside(1, 99)) {
            due(NONE, x.link(1, 3, cost));
        }
        due(before, Edges.state(x));
        due(5, x.link(1, 3, 99));
    }

    /** "the two have one", told as before. */
    static void promise03_aSecondLinkOfTwoIsRefused() {
        RerouteHouse x = Edges.house();
        String before = Edges.state(x);
        due(NONE, x.link(0, 1, 50));
        due(NONE, x.link(3, 0, 50));
        due(before, Edges.state(x));
    }

    /** "the two have one", told the other way round. */
    static void promise03_aSecondLinkTheOtherWayIsRefused() {
        RerouteHouse x = Edges.house();
        String before = Edges.state(x);
        due(NONE, x.link(1, 0, 50));
        due(NONE, x.link(0, 3, 50));
        due(before, Edges.state(x));
    }

    /** "LINKS: 24 at most": the 24th is taken. */
    static void promise03_theTwentyFourthIsTaken() {
        RerouteHouse x = Edges.ring(12, 5);
        for (int v = 0; v < 12; v++) {
            due(12 + v, x.link(v, (v + 2) % 12, 20));
        }
        due(24, x.count(1));
        due(11, x.of(23, 0));
        due(1, x.of(23, 1));
    }

    /** "24 there are". */
    static void promise03_theTwentyFifthIsRefused() {
        RerouteHouse x = Edges.full();
        due(NONE, x.link(0, 3, 1));
        due(NONE, x.link(0, 6, 1));
        due(24, x.count(1));
        due(NONE, x.between(0, 3));
        due(15, x.far(0, 3));
        due(360 - 60, x.count(5));
    }

    /** New NODES make room for 24 LINKS again. */
    static void promise03_thereIsRoomAgainAfterNodes() {
        RerouteHouse x = Edges.full();
        x.nodes(12);
        due(0, x.link(0, 3, 1));
    }

    /** "both ways". */
    static void promise03_aLinkGoesBothWays() {
        RerouteHouse x = Edges.net(3, 2, 1, 7);
        due(7, x.far(1, 2));
        due(7, x.far(2, 1));
        due(2, x.next(1, 2));
        due(1, x.next(2, 1));
    }

    /** "GROUPS (bits 0 to 7; none at first)". */
    static void promise03_aNewLinkHasNoGroups() {
        RerouteHouse x = Edges.full();
        for (int link = 0; link < 24; link++) {
            due(0, x.of(link, 3));
        }
    }

    /** A LINK that is told later is seen by what was asked before. */
    static void promise03_aLaterLinkShortensWays() {
        RerouteHouse x = Edges.line(3, 5);
        due(10, x.far(0, 2));
        due(1, x.next(0, 2));
        x.link(0, 2, 9);
        due(9, x.far(0, 2));
        due(2, x.next(0, 2));
    }

    /** Of twelve NODES 11 is the last: the number behind it is none. */
    static void promise03_noNodeBehindTheLastOfTwelve() {
        RerouteHouse x = Edges.net(12);
        due(NONE, x.link(12, 0, 1));
        due(NONE, x.link(0, 12, 1));
        due(NONE, x.link(12, 12, 1));
        due(0, x.link(0, 11, 1));
    }

    // Promise 4

    /** "what it was". */
    static void promise04_answersWhatItWas() {
        RerouteHouse x = Edges.net(2, 0, 1, 7);
        due(7, x.cost(0, 8));
        due(8, x.cost(0, 8));
        due(8, x.cost(0, 3));
        due(3, x.of(0, 2));
    }

    /** "1". */
    static void promise04_theLeastCostIsOne() {
        RerouteHouse x = Edges.net(2, 0, 1, 7);
        due(7, x.cost(0, 1));
        due(1, x.far(0, 1));
    }

    /** "to 99". */
    static void promise04_theGreatestCostIs99() {
        RerouteHouse x = Edges.net(2, 0, 1, 7);
        due(7, x.cost(0, 99));
        due(99, x.far(0, 1));
    }

    /** "NONE: others": COSTS that none may have, and all stays as it was. */
    static void promise04_otherCostsAreRefused() {
        RerouteHouse x = Edges.house();
        String before = Edges.state(x);
        due(NONE, x.cost(0, 0));
        due(NONE, x.cost(0, 100));
        for (int cost : Edges.outside(1, 99)) {
            due(NONE, x.cost(0, cost));
        }
        due(before, Edges.state(x));
    }

    /** "NONE: others": numbers that no LINK has. */
    static void promise04_otherLinksAreRefused() {
        RerouteHouse x = Edges.house();
        String before = Edges.state(x);
        for (int link : Edges.outside(0, 4)) {
            due(NONE, x.cost(link, 50));
        }
        due(before, Edges.state(x));
    }

    /** No LINK at all. */
    static void promise04_withoutLinksNoneHasACost() {
        due(NONE, new RerouteHouse().cost(0, 5));
        due(NONE, new RerouteHouse().cost(-1, 5));
    }

    /** The last of 24, and the one behind it. */
    static void promise04_theLastOfTwentyFour() {
        RerouteHouse x = Edges.full();
        due(20, x.cost(23, 4));
        due(4, x.far(11, 1));
        due(NONE, x.cost(24, 4));
    }

    // Promise 5

    /** "what they were", "none at first". */
    static void promise05_answersWhatTheyWere() {
        RerouteHouse x = Edges.net(2, 0, 1, 7);
        due(0, x.groups(0, 5));
        due(5, x.groups(0, 5));
        due(5, x.groups(0, 2));
        due(2, x.of(0, 3));
    }

    /** "bits 0": the lowest alone, and none. */
    static void promise05_theLowestBitAndNone() {
        RerouteHouse x = Edges.net(2, 0, 1, 7);
        due(0, x.groups(0, 1));
        due(1, x.groups(0, 0));
        due(0, x.of(0, 3));
    }

    /** "to 7": the highest alone, and all. */
    static void promise05_theHighestBitAndAll() {
        RerouteHouse x = Edges.net(2, 0, 1, 7);
        due(0, x.groups(0, 128));
        due(128, x.groups(0, 255));
        due(255, x.of(0, 3));
    }

    /** "NONE: others": bit 8, below none, far outside; and all stays as it was. */
    static void promise05_otherSetsAreRefused() {
        RerouteHouse x = Edges.house();
        String before = Edges.state(x);
        due(NONE, x.groups(0, 256));
        due(NONE, x.groups(0, -1));
        for (int set : Edges.outside(0, 255)) {
            due(NONE, x.groups(0, set));
        }
        due(before, Edges.state(x));
    }

    /** "NONE: others": numbers that no LINK has. */
    static void promise05_otherLinksAreRefused() {
        RerouteHouse x = Edges.house();
        String before = Edges.state(x);
        for (int link : Edges.outside(0, 4)) {
            due(NONE, x.groups(link, 1));
        }
        due(before, Edges.state(x));
    }

    /** No LINK at all, the last of 24, the one behind it. */
    static void promise05_noLinkAndTheLastOfTwentyFour() {
        due(NONE, new RerouteHouse().groups(0, 1));
        RerouteHouse x = Edges.full();
        due(0, x.groups(23, 9));
        due(9, x.of(23, 3));
        due(NONE, x.groups(24, 9));
    }

    // Promise 6

    /** "any of nothing". */
    static void promise06_nothingTakesAnyWhich() {
        RerouteHouse x = Edges.house();
        for (int which : new int[] {0, 1, -1, 8, 99, MIN_VALUE, MAX_VALUE}) {
            due(true, x.down(2, 3));
            due(true, x.down(0, which));
            due(0, x.count(2));
            due(0, x.count(3));
            due(0, x.count(4));
        }
    }

    /** A LINK: the first and the last. */
    static void promise06_theFirstAndTheLastLink() {
        RerouteHouse x = Edges.full();
        due(true, x.down(1, 0));
        due(1, x.of(0, 4));
        due(true, x.down(1, 23));
        due(1, x.of(23, 4));
        due(0, x.of(0, 4));
        due(false, x.down(1, 24));
    }

    /** "false: others": numbers that no LINK has. */
    static void promise06_otherLinksAreRefused() {
        RerouteHouse x = Edges.house();
        String before = Edges.state(x);
        for (int which : Edges.outside(0, 4)) {
            due(false, x.down(1, which));
        }
        due(before, Edges.state(x));
        due(false, new RerouteHouse().down(1, 0));
    }

    /** A NODE: the first and the last. */
    static void promise06_theFirstAndTheLastNode() {
        RerouteHouse x = Edges.full();
        due(true, x.down(2, 0));
        due(4, x.count(4));
        due(true, x.down(2, 11));
        due(4, x.count(4));
        due(11, x.count(3));
        due(false, x.down(2, 12));
    }

    /** "false: others": numbers that no NODE has. */
    static void promise06_otherNodesAreRefused() {
        RerouteHouse x = Edges.house();
        String before = Edges.state(x);
        for (int which : Edges.outside(0, 3)) {
            due(false, x.down(2, which));
        }
        due(before, Edges.state(x));
        due(true, new RerouteHouse().down(2, 1));
        due(false, new RerouteHouse().down(2, 2));
    }

    /** "Which is 0 to 7 of a GROUP". */
    static void promise06_groupsZeroToSeven() {
        RerouteHouse x = Edges.net(2, 0, 1, 1);
        for (int group = 0; group < 8; group++) {
            x.groups(0, 1 << group);
            due(true, x.down(3, group));
            due(group, x.count(3));
            due(1, x.count(4));
            x.groups(0, 255 - (1 << group));
            due(0, x.count(4));
        }
    }

    /** A GROUP that no LINK has may be DOWN, without any LINK, too. */
    static void promise06_aGroupWithoutLinks() {
        RerouteHouse x = new RerouteHouse();
        due(true, x.down(3, 7));
        due(3, x.count(2));
        due(7, x.count(3));
        due(0, x.count(4));
    }

    /** "false: others": GROUPS below 0 and above 7. */
    static void promise06_otherGroupsAreRefused() {
        RerouteHouse x = Edges.house();
        String before = Edges.state(x);
        due(false, x.down(3, 8));
        due(false, x.down(3, -1));
        for (int which : Edges.outside(0, 7)) {
            due(false, x.down(3, which));
        }
        due(before, Edges.state(x));
    }

    /** "false: others": what is none of 0 to 3. */
    static void promise06_otherWhatsAreRefused() {
        RerouteHouse x = Edges.house();
        String before = Edges.state(x);
        due(false, x.down(4, 0));
        due(false, x.down(-1, 0));
        for (int what : Edges.outside(0, 3)) {
            due(false, x.down(what, 0));
        }
        due(before, Edges.state(x));
    }

    /** DOWN is one LINK, one NODE or one GROUP: what was DOWN before is not any more. */
    static void promise06_theLastOneAloneIsDown() {
        RerouteHouse x = Edges.house();
        x.down(1, 0);
        due(1, x.count(4));
        x.down(1, 2);
        due(0, x.of(0, 4));
        due(1, x.of(2, 4));
        x.down(2, 0);
        due(0, x.of(2, 4));
        due(3, x.count(4));
        x.down(3, 0);
        due(1, x.count(4));
        due(1, x.of(0, 4));
    }

    /** "a NODE (all its LINKS)", whichever end it is, and no other. */
    static void promise06_aNodeTakesAllItsLinks() {
        RerouteHouse x = Edges.house();
        x.down(2, 0);
        int[] due = {1, 0, 0, 1, 1};
        for (int link = 0; link < 5; link++) {
            due(due[link], x.of(link, 4));
        }
    }

    /** "those LINKS are DOWN that it has as it is asked": told after the NODE was DOWN. */
    static void promise06_aNodeTakesLaterLinks() {
        RerouteHouse x = Edges.net(3);
        x.down(2, 1);
        due(0, x.count(4));
        x.link(0, 1, 1);
        due(1, x.count(4));
        x.link(1, 2, 1);
        due(2, x.count(4));
        x.link(0, 2, 1);
        due(2, x.count(4));
    }

    /** Likewise a GROUP: LINKS that have it later, and that have it no more. */
    static void promise06_aGroupTakesLinksAsTheyAre() {
        RerouteHouse x = Edges.ring(3, 1);
        x.groups(0, 4);
        x.down(3, 2);
        due(1, x.count(4));
        x.groups(1, 6);
        due(2, x.count(4));
        x.groups(0, 3);
        due(1, x.count(4));
        due(0, x.of(0, 4));
        due(1, x.of(1, 4));
    }

    /** A LINK stays DOWN, whatever it costs. */
    static void promise06_aLinkStaysDownAtAnyCost() {
        RerouteHouse x = Edges.ring(3, 1);
        x.down(1, 0);
        x.cost(0, 9);
        x.groups(0, 1);
        due(1, x.of(0, 4));
        due(1, x.count(4));
    }

    // Promise 7

    /** "what 0, 1: its NODES (as told)". */
    static void promise07_itsNodesAsTold() {
        RerouteHouse x = Edges.net(12, 11, 0, 1, 0, 10, 1);
        due(11, x.of(0, 0));
        due(0, x.of(0, 1));
        due(0, x.of(1, 0));
        due(10, x.of(1, 1));
    }

    /** "2: COST, 3: GROUPS". */
    static void promise07_costAndGroupsAtTheirLimits() {
        RerouteHouse x = Edges.net(3, 0, 1, 1, 1, 2, 99);
        x.groups(1, 255);
        due(1, x.of(0, 2));
        due(99, x.of(1, 2));
        due(0, x.of(0, 3));
        due(255, x.of(1, 3));
    }

    /** "4: 1 DOWN (0: not)". */
    static void promise07_downOrNot() {
        RerouteHouse x = Edges.net(3, 0, 1, 1, 1, 2, 99);
        due(0, x.of(1, 4));
        x.down(1, 1);
        due(1, x.of(1, 4));
        due(0, x.of(0, 4));
        x.down(0, 1);
        due(0, x.of(1, 4));
    }

    /** "5: BETWEEN", of a LINK that is on no WAY. */
    static void promise07_betweenOfAnUnusedLinkIsZero() {
        due(0, Edges.net(3, 0, 1, 1, 1, 2, 1, 0, 2, 3).of(2, 5));
    }

    /** BETWEEN: "both orders". */
    static void promise07_betweenCountsBothOrders() {
        due(2, Edges.net(2, 0, 1, 1).of(0, 5));
        // all pairs of the two halves, there and back
        due(72, Edges.line(12, 1).of(5, 5));
    }

    /** BETWEEN goes by the WAY, not by any way that is as short. */
    static void promise07_betweenGoesByTheLowestNext() {
        RerouteHouse x = Edges.ring(4, 1);
        // 0 to 2 and 2 to 0 go by 1, 1 to 3 and 3 to 1 by 0
        due(6, x.of(0, 5));
        due(4, x.of(1, 5));
        due(2, x.of(2, 5));
        due(4, x.of(3, 5));
    }

    /** BETWEEN is of the network as it is without anything DOWN. */
    static void promise07_betweenDoesNotHeedWhatIsDown() {
        RerouteHouse x = Edges.ring(4, 1);
        x.down(1, 0);
        due(6, x.of(0, 5));
        x.down(2, 1);
        due(6, x.of(0, 5));
    }

    /** "NONE: others": numbers that no LINK has. */
    static void promise07_otherLinks() {
        RerouteHouse x = Edges.house();
        for (int link : Edges.outside(0, 4)) {
            due(NONE, x.of(link, 0));
            due(NONE, x.of(link, 4));
            due(NONE, x.of(link, 5));
        }
        due(NONE, new RerouteHouse().of(0, 4));
        RerouteHouse full = Edges.full();
        due(20, full.of(23, 2));
        due(NONE, full.of(24, 2));
    }

    /** "NONE: others": what is none of 0 to 5. */
    static void promise07_otherWhats() {
        RerouteHouse x = Edges.house();
        due(NONE, x.of(0, 6));
        due(NONE, x.of(0, -1));
        for (int what : Edges.outside(0, 5)) {
            due(NONE, x.of(0, what));
        }
    }

    // Promise 8

    /** "The LINK of two NODES", in both orders, the first and the last. */
    static void promise08_bothOrders() {
        RerouteHouse x = Edges.full();
        due(0, x.between(0, 1));
        due(0, x.between(1, 0));
        due(23, x.between(11, 1));
        due(23, x.between(1, 11));
    }

    /** "none". */
    static void promise08_noLink() {
        RerouteHouse x = Edges.house();
        due(NONE, x.between(1, 3));
        due(NONE, x.between(3, 1));
    }

    /** One and the same NODE has none. */
    static void promise08_oneAndTheSame() {
        RerouteHouse x = Edges.house();
        for (int v = 0; v < 4; v++) {
            due(NONE, x.between(v, v));
        }
    }

    /** "NONE: others". */
    static void promise08_others() {
        RerouteHouse x = Edges.house();
        for (int v : Edges.outside(0, 3)) {
            due(NONE, x.between(v, 0));
            due(NONE, x.between(0, v));
            due(NONE, x.between(v, v));
        }
    }

    /** A LINK is there, whether it is DOWN or not. */
    static void promise08_downIsStillThere() {
        RerouteHouse x = Edges.house();
        x.down(1, 0);
        due(0, x.between(0, 1));
    }

    /** Of twelve NODES 11 is the last: the number behind it is none. */
    static void promise08_noNodeBehindTheLastOfTwelve() {
        RerouteHouse x = Edges.full();
        due(NONE, x.between(12, 0));
        due(NONE, x.between(0, 12));
        due(NONE, x.between(12, 12));
    }

    // Promise 9

    /** "0 of one and the same", with and without LINKS. */
    static void promise09_zeroOfOneAndTheSame() {
        RerouteHouse x = Edges.net(12, 0, 11, 5);
        for (int v = 0; v < 12; v++) {
            due(0, x.far(v, v));
        }
    }

    /** "none, if there is no way". */
    static void promise09_noneWithoutAWay() {
        RerouteHouse x = Edges.net(5, 0, 1, 1, 2, 3, 1);
        due(NONE, x.far(0, 2));
        due(NONE, x.far(3, 1));
        due(NONE, x.far(0, 4));
        due(NONE, x.far(4, 0));
    }

    /** "NONE: others": also one and the same that is no NODE. */
    static void promise09_others() {
        RerouteHouse x = Edges.house();
        for (int v : Edges.outside(0, 3)) {
            due(NONE, x.far(v, 0));
            due(NONE, x.far(0, v));
            due(NONE, x.far(v, v));
        }
    }

    /** The farthest there is: 11 LINKS of 99. */
    static void promise09_theFarthest() {
        RerouteHouse x = Edges.line(12, 99);
        due(1089, x.far(0, 11));
        due(1089, x.far(11, 0));
        // told from the far end on
        RerouteHouse y = Edges.net(12);
        for (int v = 11; v > 0; v--) {
            y.link(v, v - 1, 99);
        }
        due(1089, y.far(0, 11));
        due(1089, y.far(11, 0));
    }

    /** "the least COSTS together of all ways": eleven cheap LINKS before a dear one. */
    static void promise09_manyLinksMayBeLess() {
        RerouteHouse x = Edges.ring(12, 9);
        x.cost(11, 99);
        due(99, x.far(0, 11));
        x.cost(10, 8);
        due(98, x.far(0, 11));
    }

    /** FAR is what is known without anything DOWN. */
    static void promise09_whatIsDownDoesNotCount() {
        RerouteHouse x = Edges.net(2, 0, 1, 5);
        x.down(1, 0);
        due(5, x.far(0, 1));
        x.down(2, 1);
        due(5, x.far(0, 1));
    }

    /** Of twelve NODES 11 is the last: the number behind it is none. */
    static void promise09_noNodeBehindTheLastOfTwelve() {
        RerouteHouse x = Edges.full();
        due(NONE, x.far(12, 0));
        due(NONE, x.far(0, 12));
        due(NONE, x.far(12, 12));
    }

    // Promise 10

    /** "NONE: one and the same". */
    static void promise10_oneAndTheSame() {
        RerouteHouse x = Edges.house();
        for (int v = 0; v < 4; v++) {
            due(NONE, x.next(v, v));
        }
    }

    /** "none": no way. */
    static void promise10_noWay() {
        RerouteHouse x = Edges.net(4, 0, 1, 1, 2, 3, 1);
        due(NONE, x.next(0, 2));
        due(NONE, x.next(3, 1));
        due(NONE, new RerouteHouse().next(0, 1));
    }

    /** "NONE: others". */
    static void promise10_others() {
        RerouteHouse x = Edges.house();
        for (int v : Edges.outside(0, 3)) {
            due(NONE, x.next(v, 0));
            due(NONE, x.next(0, v));
            due(NONE, x.next(v, v));
        }
    }

    /** "the lowest" of equal ones, in whichever order they were told. */
    static void promise10_theLowestOfEqualOnes() {
        RerouteHouse x = Edges.net(12, 0, 10, 1, 10, 11, 1, 0, 4, 1, 4, 11, 1, 0, 7, 1, 7, 11, 1);
        due(4, x.next(0, 11));
        due(4, x.next(11, 0));
        x.cost(3, 2);
        due(7, x.next(0, 11));
    }

    /** "the lowest", even ahead of d itself. */
    static void promise10_theLowestEvenAheadOfTheGoal() {
        RerouteHouse x = Edges.net(3, 0, 2, 2, 0, 1, 1, 1, 2, 1);
        due(1, x.next(0, 2));
        due(0, x.next(2, 0));
    }

    /** A NEIGHBOUR is lower, but its way is by one more. */
    static void promise10_notTheLowestByOneMore() {
        RerouteHouse x = Edges.net(3, 0, 2, 2, 0, 1, 1, 1, 2, 2);
        due(2, x.next(0, 2));
    }

    /** NEXT is what is known without anything DOWN. */
    static void promise10_whatIsDownDoesNotCount() {
        RerouteHouse x = Edges.ring(3, 1);
        x.down(1, 0);
        due(1, x.next(0, 1));
        x.down(2, 1);
        due(1, x.next(0, 1));
    }

    /** Of twelve NODES 11 is the last: the number behind it is none. */
    static void promise10_noNodeBehindTheLastOfTwelve() {
        RerouteHouse x = Edges.full();
        due(NONE, x.next(12, 0));
        due(NONE, x.next(0, 12));
        due(NONE, x.next(12, 12));
    }

    // Promise 11

    /** "0: a itself". */
    static void promise11_theFirstIsItself() {
        RerouteHouse x = Edges.line(12, 1);
        due(0, Edges.wayOf(x, 0, 11, 0));
        due(11, Edges.wayOf(x, 11, 0, 0));
    }

    /** "to d": the last one, and "none such" behind it. */
    static void promise11_theLastIsTheGoal() {
        RerouteHouse x = Edges.line(4, 1);
        due(3, Edges.wayOf(x, 0, 3, 3));
        due(THROWN, Edges.wayOf(x, 0, 3, 4));
        due(1, Edges.wayOf(x, 0, 1, 1));
        due(THROWN, Edges.wayOf(x, 0, 1, 2));
    }

    /** The longest WAY has twelve NODES. */
    static void promise11_theLongestWay() {
        RerouteHouse x = Edges.line(12, 1);
        for (int i = 0; i < 12; i++) {
            due(i, Edges.wayOf(x, 0, 11, i));
            due(11 - i, Edges.wayOf(x, 11, 0, i));
        }
        due(THROWN, Edges.wayOf(x, 0, 11, 12));
        due(THROWN, Edges.wayOf(x, 0, 11, 13));
    }

    /** "none such": below 0, far above. */
    static void promise11_noneSuch() {
        RerouteHouse x = Edges.line(12, 1);
        due(THROWN, Edges.wayOf(x, 0, 11, -1));
        for (int i : Edges.outside(0, 11)) {
            due(THROWN, Edges.wayOf(x, 0, 11, i));
        }
    }

    /** "no way": not even the first one. */
    static void promise11_noWay() {
        RerouteHouse x = Edges.net(3, 0, 1, 1);
        due(THROWN, Edges.wayOf(x, 0, 2, 0));
        due(THROWN, Edges.wayOf(x, 0, 2, 1));
        due(THROWN, Edges.wayOf(x, 2, 0, 0));
        due(THROWN, Edges.wayOf(new RerouteHouse(), 0, 1, 0));
    }

    /** Of one and the same: itself, and nothing behind it. */
    static void promise11_oneAndTheSame() {
        RerouteHouse x = Edges.net(3, 0, 1, 1);
        due(0, Edges.wayOf(x, 0, 0, 0));
        due(2, Edges.wayOf(x, 2, 2, 0));
        due(THROWN, Edges.wayOf(x, 0, 0, 1));
        due(THROWN, Edges.wayOf(x, 0, 0, -1));
    }

    /** "NoSuchElementException: others". */
    static void promise11_others() {
        RerouteHouse x = Edges.house();
        for (int v : Edges.outside(0, 3)) {
            due(THROWN, Edges.wayOf(x, v, 0, 0));
            due(THROWN, Edges.wayOf(x, 0, v, 0));
            due(THROWN, Edges.wayOf(x, v, v, 0));
        }
    }

    /** Of twelve NODES 11 is the last: the number behind it is none. */
    static void promise11_noNodeBehindTheLastOfTwelve() {
        RerouteHouse x = Edges.full();
        due(THROWN, Edges.wayOf(x, 12, 0, 0));
        due(THROWN, Edges.wayOf(x, 0, 12, 0));
        due(THROWN, Edges.wayOf(x, 12, 12, 0));
    }

    /** A call that throws leaves all as it was. */
    static void promise11_aThrowLeavesAllAsItWas() {
        RerouteHouse x = Edges.house();
        String before = Edges.state(x);
        due(THROWN, Edges.wayOf(x, 0, 1, 2));
        due(THROWN, Edges.wayOf(x, 0, 4, MAX_VALUE));
        due(THROWN, Edges.wayOf(x, MIN_VALUE, MIN_VALUE, MIN_VALUE));
        due(before, Edges.state(x));
        due(1, Edges.wayOf(x, 0, 1, 1));
    }
}
