/**
 * "Terms": who is left, and when a stem has heirs; a test quotes the sentence that it holds.
 */
public final class LeftTest {
    private static final int NONE = SuccessionClerk.NONE;
    private static final Check CHECK = new Check();

    public static void main(String[] args) {
        didNotDie();
        diedOnALaterDay();
        daysAreThoseOfTheEstate();
        isNotTheDeceased();
        isNotExcluded();
        isExcludedFromThisEstateAlone();
        leftTakesAll();
        goneChildrenTakeAlike();
        onlyStemsWithHeirs();
        heirsHaveShares();
        stemOfMostChildren();
        deepestStem();
        stemThroughBothParents();
        stemsOfEachParentAlike();
        leftOnOneWayNotOnAnother();
        CHECK.end();
    }

    /** Person 0 with the child 1 and the grandchild 2. */
    private static Desk threeGenerations() {
        Desk clerk = Desk.parentOf(1);
        clerk.childOf(1);
        return clerk;
    }

    /** "a person is LEFT if it ... did not die" */
    private static void didNotDie() {
        for (int day : new int[] {0, 999}) {
            Desk clerk = threeGenerations();
            clerk.dies(0, day);
            CHECK.share(clerk, 0, 1, 1, 1);
            CHECK.noShare(clerk, 0, 2);
            CHECK.same("heirs", clerk.heirs(0), 1);
        }
    }

    /** "or did so on a later day than E" */
    private static void diedOnALaterDay() {
        int[][] later = {{0, 1}, {0, 999}, {998, 999}, {499, 500}, {9, 10}, {99, 100}};
        for (int[] days : later) {
            Desk clerk = threeGenerations();
            clerk.dies(0, days[0]);
            clerk.dies(1, days[1]);
            CHECK.share(clerk, 0, 1, 1, 1);
            CHECK.noShare(clerk, 0, 2);
            CHECK.same("who died first is not left for the later", clerk.heir(1, 0), 2);
        }
        int[][] notLater = {{0, 0}, {999, 999}, {1, 0}, {999, 998}, {500, 499}, {500, 500}, {999, 0}, {10, 9}};
        for (int[] days : notLater) {
            Desk clerk = threeGenerations();
            clerk.dies(0, days[0]);
            clerk.dies(1, days[1]);
            CHECK.noShare(clerk, 0, 1);
            CHECK.share(clerk, 0, 2, 1, 1);
            CHECK.same("the stem is the dead child's", clerk.stem(0, 2), 1);
        }
    }

    private static void daysAreThoseOfTheEstate() {
        Desk clerk = Desk.with(2);
        clerk.person(0, 1);
        clerk.person(0, 1);
        clerk.dies(0, 10);
        clerk.dies(1, 30);
        clerk.dies(2, 20);
        CHECK.same("left for the earlier estate", clerk.heirs(0), 2);
        CHECK.same("not for the later one", clerk.heirs(1), 1);
        CHECK.share(clerk, 0, 2, 1, 2);
        CHECK.share(clerk, 1, 3, 1, 1);
        CHECK.same("a parent who died later is left for a child", clerk.order(2), 1);
        CHECK.share(clerk, 2, 1, 1, 2);
        CHECK.share(clerk, 2, 3, 1, 2);
    }

    /** "if it is not E" */
    private static void isNotTheDeceased() {
        Desk clerk = Desk.parentOf(1);
        clerk.dies(0, 5);
        clerk.dies(1, 9);
        CHECK.same("an only child in its dead parent's stem", clerk.order(1), 5);
        CHECK.same("heirs", clerk.heirs(1), 0);
        CHECK.noShare(clerk, 1, 1);
        CHECK.same("its own stem", clerk.stem(1, 1), NONE);
        clerk.childOf(0);
        CHECK.share(clerk, 1, 2, 1, 1);
        CHECK.noShare(clerk, 1, 1);
        Desk twice = Desk.with(1);
        twice.childOf(0);
        twice.childOf(0);
        twice.person(1, 2);
        twice.dies(1, 1);
        twice.dies(2, 1);
        twice.dies(0, 2);
        twice.dies(3, 3);
        CHECK.same("nor in its grandparent's", twice.order(3), 5);
    }

    /** "is not excluded from this estate" */
    private static void isNotExcluded() {
        Desk clerk = threeGenerations();
        clerk.dies(0, 5);
        clerk.exclude(1, 0, true);
        CHECK.noShare(clerk, 0, 1);
        CHECK.share(clerk, 0, 2, 1, 1);
        clerk.exclude(2, 0, true);
        CHECK.same("both excluded", clerk.order(0), 5);
        clerk.exclude(1, 0, false);
        CHECK.share(clerk, 0, 1, 1, 1);
        clerk.dies(1, 6);
        CHECK.share(clerk, 0, 1, 1, 1);
        clerk.exclude(1, 0, true);
        CHECK.same("excluded, and died later", clerk.order(0), 5);
        Desk parents = Desk.with(2);
        parents.person(0, 1);
        parents.dies(2, 5);
        parents.exclude(0, 2, true);
        CHECK.share(parents, 2, 1, 1, 1);
        parents.exclude(1, 2, true);
        CHECK.same("excluded parents", parents.order(2), 5);
    }

    private static void isExcludedFromThisEstateAlone() {
        Desk clerk = Desk.with(2);
        clerk.person(0, 1);
        clerk.person(0, 1);
        clerk.dies(0, 5);
        clerk.dies(1, 5);
        clerk.exclude(2, 0, true);
        CHECK.noShare(clerk, 0, 2);
        CHECK.share(clerk, 0, 3, 1, 1);
        CHECK.share(clerk, 1, 2, 1, 2);
        clerk.dies(3, 9);
        CHECK.share(clerk, 3, 2, 1, 1);
        clerk.exclude(3, 2, true);
        CHECK.share(clerk, 3, 2, 1, 1);
        clerk.exclude(0, 0, true);
        clerk.exclude(0, 3, true);
        CHECK.share(clerk, 0, 3, 1, 1);
        CHECK.share(clerk, 3, 2, 1, 1);
    }

    /** "if the person is left, it takes all of that" */
    private static void leftTakesAll() {
        Desk clerk = Desk.parentOf(2);
        clerk.childOf(1);
        clerk.childOf(1);
        clerk.dies(0, 5);
        CHECK.share(clerk, 0, 1, 1, 2);
        CHECK.noShare(clerk, 0, 3);
        CHECK.noShare(clerk, 0, 4);
        CHECK.same("no stem behind one who is left", clerk.stem(0, 3), NONE);
        CHECK.same("heirs", clerk.heirs(0), 2);
    }

    /** "otherwise its children take alike, each with a stem of its own" */
    private static void goneChildrenTakeAlike() {
        Desk clerk = Desk.parentOf(2);
        for (int children = 1; children <= 17; children++) {
            int last = clerk.childOf(1);
            Desk dead = clerk.again();
            dead.dies(0, 5);
            dead.dies(1, 5);
            CHECK.same("heirs", dead.heirs(0), children + 1);
            CHECK.share(dead, 0, 2, 1, 2);
            CHECK.share(dead, 0, 3, 1, 2 * children);
            CHECK.share(dead, 0, last, 1, 2 * children);
        }
    }

    /** "but only those whose stems HAVE HEIRS" */
    private static void onlyStemsWithHeirs() {
        Desk clerk = Desk.parentOf(2);
        clerk.childOf(1);
        clerk.childOf(1);
        clerk.childOf(3);
        clerk.dies(0, 5);
        clerk.dies(1, 4);
        clerk.dies(3, 4);
        CHECK.share(clerk, 0, 5, 1, 4);
        CHECK.share(clerk, 0, 4, 1, 4);
        clerk.exclude(5, 0, true);
        CHECK.share(clerk, 0, 4, 1, 2);
        CHECK.share(clerk, 0, 2, 1, 2);
        clerk.exclude(4, 0, true);
        CHECK.share(clerk, 0, 2, 1, 1);
        CHECK.same("the only heir", clerk.heirs(0), 1);
        clerk.exclude(2, 0, true);
        CHECK.same("no stem has heirs", clerk.order(0), 5);
        clerk.exclude(5, 0, false);
        CHECK.share(clerk, 0, 5, 1, 1);
        CHECK.same("the order 0 by a great-grandchild", clerk.order(0), 0);
    }

    /** "HEIRS are the persons with a share above 0." */
    private static void heirsHaveShares() {
        Desk clerk = Desk.parentOf(4);
        clerk.childOf(2);
        clerk.dies(0, 5);
        clerk.dies(2, 5);
        clerk.exclude(3, 0, true);
        int[] heirs = {1, 4, 5};
        CHECK.same("heirs", clerk.heirs(0), heirs.length);
        for (int i = 0; i < heirs.length; i++) {
            CHECK.same("heir " + i, clerk.heir(0, i), heirs[i]);
            CHECK.share(clerk, 0, heirs[i], 1, 3);
        }
        for (int who : new int[] {0, 2, 3}) {
            CHECK.noShare(clerk, 0, who);
        }
    }

    private static void stemOfMostChildren() {
        Desk clerk = Desk.parentOf(19);
        clerk.dies(0, 0);
        for (int who = 1; who < 19; who++) {
            CHECK.share(clerk, 0, 19, 1, 20 - who);
            clerk.exclude(who, 0, true);
        }
        CHECK.share(clerk, 0, 19, 1, 1);
        clerk.exclude(19, 0, true);
        CHECK.same("all excluded", clerk.order(0), 5);
        CHECK.same("no heirs", clerk.heirs(0), 0);
    }

    /** "A stem has heirs if its person is left, or the stem of one of its children has heirs." */
    private static void deepestStem() {
        Desk clerk = Desk.with(1);
        for (int who = 1; who < 20; who++) {
            clerk.childOf(who - 1);
        }
        clerk.dies(0, 999);
        for (int who = 1; who < 20; who++) {
            CHECK.share(clerk, 0, who, 1, 1);
            CHECK.same("stem", clerk.stem(0, who), 1);
            CHECK.same("heirs", clerk.heirs(0), 1);
            CHECK.same("order", clerk.order(0), 0);
            clerk.dies(who, who);
        }
        CHECK.same("a stem without heirs", clerk.order(0), 5);
        CHECK.same("heirs of none", clerk.heirs(0), 0);
    }

    /** Who is a child of two that are gone takes in both stems. */
    private static void stemThroughBothParents() {
        Desk clerk = Desk.parentOf(2);
        clerk.person(1, 2);
        clerk.person(2, 1);
        clerk.childOf(2);
        clerk.dies(0, 5);
        clerk.dies(1, 1);
        CHECK.share(clerk, 0, 2, 1, 2);
        CHECK.share(clerk, 0, 3, 1, 4);
        clerk.dies(2, 1);
        CHECK.share(clerk, 0, 3, 5, 12);
        CHECK.share(clerk, 0, 4, 5, 12);
        CHECK.share(clerk, 0, 5, 1, 6);
        CHECK.same("heirs are counted once", clerk.heirs(0), 3);
        CHECK.same("heir 2", clerk.heir(0, 2), 5);
        CHECK.same("the lesser stem", clerk.stem(0, 4), 1);
        CHECK.same("the only stem", clerk.stem(0, 5), 2);
        clerk.exclude(3, 0, true);
        CHECK.share(clerk, 0, 4, 3, 4);
        CHECK.share(clerk, 0, 5, 1, 4);
    }

    /** Children of E who are children of one another too. */
    private static void stemsOfEachParentAlike() {
        Desk clerk = Desk.parentOf(1);
        clerk.person(0, 1);
        clerk.person(1, 2);
        clerk.dies(0, 5);
        CHECK.share(clerk, 0, 1, 1, 2);
        CHECK.share(clerk, 0, 2, 1, 2);
        clerk.dies(1, 5);
        CHECK.share(clerk, 0, 2, 3, 4);
        CHECK.share(clerk, 0, 3, 1, 4);
        clerk.dies(2, 5);
        CHECK.share(clerk, 0, 3, 1, 1);
        CHECK.same("the least stem", clerk.stem(0, 3), 1);
    }

    /** Behind one who is left it takes nothing, but its share by the other way stays. */
    private static void leftOnOneWayNotOnAnother() {
        Desk clerk = Desk.parentOf(2);
        clerk.person(1, 2);
        clerk.dies(0, 5);
        clerk.dies(2, 4);
        CHECK.share(clerk, 0, 1, 1, 2);
        CHECK.share(clerk, 0, 3, 1, 2);
        CHECK.same("by the stem of the gone one", clerk.stem(0, 3), 2);
        clerk.amend(3, 1, NONE);
        CHECK.share(clerk, 0, 1, 1, 1);
        CHECK.same("by no stem", clerk.stem(0, 3), NONE);
    }
}
