/**
 * "Terms": when a line or an order has heirs, when the spouse or the town takes all; a test quotes
 * the sentence that it holds.
 */
public final class OrdersTest {
    private static final int NONE = SuccessionClerk.NONE;
    private static final Check CHECK = new Check();

    public static void main(String[] args) {
        ordersInTurn();
        ordersThroughStems();
        bothParents();
        aParentNotKnown();
        aLineWithoutHeirs();
        grandparentsNotKnown();
        eightGreatGrandparents();
        noOrderAboveThree();
        ancestorsByTwoLines();
        spouseTakesAQuarter();
        spouseTakesHalf();
        spouseTakesAll();
        spouseNotLeft();
        spouseOfTheDead();
        spouseWhoIsKin();
        townTakesAll();
        lowestTerms();
        stemsAtTheOrdersHeight();
        noStem();
        CHECK.end();
    }

    /** Persons 0 to 3: great-grandparent, grandparent, parent, and 3, who died; 4 is its child. */
    private static Desk ladder() {
        Desk clerk = Desk.with(1);
        for (int who = 1; who <= 4; who++) {
            clerk.childOf(who - 1);
        }
        clerk.dies(3, 500);
        return clerk;
    }

    /** "The first order that has heirs ... takes the rest."; "0 .. 3 the order that has the rest" */
    private static void ordersInTurn() {
        Desk clerk = ladder();
        int[] takers = {4, 2, 1, 0};
        for (int order = 0; order <= 3; order++) {
            CHECK.same("order", clerk.order(3), order);
            CHECK.share(clerk, 3, takers[order], 1, 1);
            CHECK.same("heirs", clerk.heirs(3), 1);
            CHECK.same("heir", clerk.heir(3, 0), takers[order]);
            CHECK.same("stem", clerk.stem(3, takers[order]), takers[order]);
            clerk.dies(takers[order], 500);
        }
        CHECK.same("order of none", clerk.order(3), 5);
    }

    /** "An order has heirs if a stem or a line in it has." Here by the very last of a stem. */
    private static void ordersThroughStems() {
        Desk clerk = ladder();
        int cousin = clerk.childOf(clerk.childOf(1));
        int niece = clerk.childOf(clerk.childOf(2));
        int grandchild = clerk.childOf(4);
        int greatAunt = clerk.childOf(0);
        for (int who : new int[] {0, 1, 2, 4, cousin - 1, niece - 1}) {
            clerk.dies(who, 400);
        }
        int[] takers = {grandchild, niece, cousin, greatAunt};
        int[] stems = {4, 2, 1, 0};
        for (int order = 0; order <= 3; order++) {
            CHECK.same("order", clerk.order(3), order);
            CHECK.share(clerk, 3, takers[order], 1, 1);
            CHECK.same("stem", clerk.stem(3, takers[order]), stems[order]);
            clerk.exclude(takers[order], 3, true);
        }
        CHECK.same("order of none", clerk.order(3), 5);
    }

    /** "its first and its second parent take half of the part each" */
    private static void bothParents() {
        Desk clerk = Desk.with(2);
        clerk.person(0, 1);
        clerk.dies(2, 5);
        CHECK.share(clerk, 2, 0, 1, 2);
        CHECK.share(clerk, 2, 1, 1, 2);
        clerk.childOf(0);
        clerk.childOf(0);
        clerk.childOf(0);
        clerk.dies(0, 5);
        CHECK.share(clerk, 2, 1, 1, 2);
        CHECK.share(clerk, 2, 3, 1, 6);
        CHECK.share(clerk, 2, 5, 1, 6);
        clerk.person(0, 1);
        clerk.dies(1, 5);
        CHECK.share(clerk, 2, 3, 1, 8);
        CHECK.share(clerk, 2, 6, 5, 8);
    }

    /** "where one of them is not known ... the other one takes all" */
    private static void aParentNotKnown() {
        Desk clerk = Desk.with(2);
        clerk.childOf(0);
        clerk.dies(2, 5);
        CHECK.share(clerk, 2, 0, 1, 1);
        clerk.amend(2, NONE, 0);
        CHECK.share(clerk, 2, 0, 1, 1);
        clerk.amend(2, 1, NONE);
        CHECK.share(clerk, 2, 1, 1, 1);
        CHECK.noShare(clerk, 2, 0);
        clerk.amend(2, NONE, NONE);
        CHECK.same("both not known", clerk.order(2), 5);
        clerk.amend(2, 1, 0);
        CHECK.share(clerk, 2, 1, 1, 2);
    }

    /** "or its line does not have heirs, the other one takes all" */
    private static void aLineWithoutHeirs() {
        for (int gone = 0; gone < 2; gone++) {
            Desk clerk = Desk.with(2);
            clerk.person(0, 1);
            clerk.dies(2, 5);
            clerk.dies(gone, 5);
            CHECK.same("order", clerk.order(2), 1);
            CHECK.share(clerk, 2, 1 - gone, 1, 1);
            CHECK.same("heirs", clerk.heirs(2), 1);
            int sibling = clerk.childOf(gone);
            CHECK.share(clerk, 2, 1 - gone, 1, 2);
            CHECK.share(clerk, 2, sibling, 1, 2);
            clerk.exclude(sibling, 2, true);
            CHECK.share(clerk, 2, 1 - gone, 1, 1);
            clerk.exclude(1 - gone, 2, true);
            CHECK.same("neither has heirs", clerk.order(2), 5);
        }
    }

    /**
     * "(A line has heirs if the stem, or one of the lines, that it consists of has.)" The lines of
     * grandparents: 0 and 1 by the parent 4, 2 and 3 by the parent 5.
     */
    private static void grandparentsNotKnown() {
        Desk clerk = Desk.with(4);
        clerk.person(0, 1);
        clerk.person(2, 3);
        clerk.person(4, 5);
        clerk.dies(4, 5);
        clerk.dies(5, 5);
        clerk.dies(6, 5);
        CHECK.same("order", clerk.order(6), 2);
        CHECK.share(clerk, 6, 3, 1, 4);
        clerk.amend(5, 2, NONE);
        CHECK.share(clerk, 6, 2, 1, 2);
        CHECK.share(clerk, 6, 0, 1, 4);
        clerk.amend(5, NONE, NONE);
        CHECK.share(clerk, 6, 0, 1, 2);
        CHECK.share(clerk, 6, 1, 1, 2);
        clerk.amend(4, NONE, 1);
        CHECK.share(clerk, 6, 1, 1, 1);
        clerk.amend(6, NONE, 4);
        CHECK.share(clerk, 6, 1, 1, 1);
        clerk.amend(6, NONE, 5);
        CHECK.same("no line of grandparents", clerk.order(6), 5);
        clerk.amend(5, 3, 2);
        CHECK.share(clerk, 6, 3, 1, 2);
        clerk.dies(3, 5);
        CHECK.share(clerk, 6, 2, 1, 1);
    }

    /** "ORDERS 1, 2 and 3 are the lines of E with the heights 1, 2 and 3." */
    private static void eightGreatGrandparents() {
        Desk clerk = Desk.with(8);
        for (int who = 8; who < 15; who++) {
            clerk.person(2 * (who - 8), 2 * (who - 8) + 1);
            clerk.dies(who, 5);
        }
        CHECK.same("order", clerk.order(14), 3);
        CHECK.same("heirs", clerk.heirs(14), 8);
        for (int who = 0; who < 8; who++) {
            CHECK.share(clerk, 14, who, 1, 8);
            CHECK.same("stem", clerk.stem(14, who), who);
        }
        clerk.exclude(0, 14, true);
        CHECK.share(clerk, 14, 1, 1, 4);
        CHECK.share(clerk, 14, 2, 1, 8);
        clerk.exclude(1, 14, true);
        CHECK.share(clerk, 14, 2, 1, 4);
        CHECK.share(clerk, 14, 7, 1, 8);
        clerk.exclude(2, 14, true);
        CHECK.share(clerk, 14, 3, 1, 2);
        CHECK.share(clerk, 14, 7, 1, 8);
        clerk.exclude(3, 14, true);
        CHECK.share(clerk, 14, 7, 1, 4);
        clerk.exclude(4, 14, true);
        clerk.exclude(5, 14, true);
        CHECK.share(clerk, 14, 7, 1, 2);
        clerk.exclude(6, 14, true);
        CHECK.share(clerk, 14, 7, 1, 1);
        clerk.exclude(7, 14, true);
        CHECK.same("all excluded", clerk.order(14), 5);
    }

    /** A line of the height 4 is no order: whoever is that far is no heir. */
    private static void noOrderAboveThree() {
        Desk clerk = Desk.with(1);
        for (int who = 1; who <= 4; who++) {
            clerk.childOf(who - 1);
        }
        clerk.dies(4, 5);
        for (int who = 3; who > 1; who--) {
            clerk.dies(who, 5);
        }
        CHECK.same("the height 3", clerk.order(4), 3);
        CHECK.share(clerk, 4, 1, 1, 1);
        clerk.dies(1, 5);
        CHECK.same("the height 4", clerk.order(4), 5);
        CHECK.same("heirs", clerk.heirs(4), 0);
        CHECK.noShare(clerk, 4, 0);
        CHECK.same("stem", clerk.stem(4, 0), NONE);
        clerk.person(NONE, NONE);
        clerk.amend(1, NONE, NONE);
        clerk.amend(2, 0, 1);
        CHECK.same("the height 3 again", clerk.order(4), 3);
    }

    /** "The SHARE of a person is the part of the estate that it takes in all these ways together." */
    private static void ancestorsByTwoLines() {
        Desk clerk = Desk.with(2);
        clerk.person(0, 1);
        clerk.person(0, NONE);
        clerk.person(2, 3);
        for (int who = 2; who <= 4; who++) {
            clerk.dies(who, 5);
        }
        CHECK.share(clerk, 4, 0, 3, 4);
        CHECK.share(clerk, 4, 1, 1, 4);
        clerk.amend(3, 1, 0);
        CHECK.share(clerk, 4, 0, 1, 2);
        CHECK.share(clerk, 4, 1, 1, 2);
        CHECK.same("heirs", clerk.heirs(4), 2);
        clerk.dies(0, 5);
        CHECK.share(clerk, 4, 1, 1, 1);
        clerk.person(0, 1);
        CHECK.share(clerk, 4, 5, 1, 2);
        clerk.dies(1, 5);
        CHECK.share(clerk, 4, 5, 1, 1);
    }

    /** The ladder, with 5 as the spouse of 3. */
    private static Desk marriedLadder() {
        Desk clerk = Desk.with(1);
        for (int who = 1; who <= 4; who++) {
            clerk.childOf(who - 1);
        }
        clerk.marry(3, clerk.person(NONE, NONE));
        clerk.dies(3, 500);
        return clerk;
    }

    /** "takes a quarter of the estate if the order 0 has heirs" */
    private static void spouseTakesAQuarter() {
        Desk clerk = marriedLadder();
        CHECK.same("order", clerk.order(3), 0);
        CHECK.share(clerk, 3, 5, 1, 4);
        CHECK.share(clerk, 3, 4, 3, 4);
        int other = clerk.childOf(3);
        CHECK.share(clerk, 3, 5, 1, 4);
        CHECK.share(clerk, 3, other, 3, 8);
        clerk.childOf(3);
        CHECK.share(clerk, 3, other, 1, 4);
        CHECK.same("heirs", clerk.heirs(3), 4);
        CHECK.same("heir 1", clerk.heir(3, 1), 5);
    }

    /** "half of it, if that has none, but the order 1 or 2 has" */
    private static void spouseTakesHalf() {
        Desk clerk = marriedLadder();
        clerk.exclude(4, 3, true);
        CHECK.same("order 1", clerk.order(3), 1);
        CHECK.share(clerk, 3, 5, 1, 2);
        CHECK.share(clerk, 3, 2, 1, 2);
        clerk.exclude(2, 3, true);
        CHECK.same("order 2", clerk.order(3), 2);
        CHECK.share(clerk, 3, 5, 1, 2);
        CHECK.share(clerk, 3, 1, 1, 2);
        int aunt = clerk.childOf(1);
        clerk.exclude(1, 3, true);
        CHECK.share(clerk, 3, 5, 1, 2);
        CHECK.share(clerk, 3, aunt, 1, 2);
        CHECK.same("heirs", clerk.heirs(3), 2);
    }

    /** "otherwise all"; "but not 3 if there is a spouse who is left"; "4 the spouse alone" */
    private static void spouseTakesAll() {
        Desk clerk = marriedLadder();
        for (int who : new int[] {1, 2, 4}) {
            clerk.dies(who, 500);
        }
        CHECK.same("with the order 3", clerk.order(3), 4);
        CHECK.share(clerk, 3, 5, 1, 1);
        CHECK.noShare(clerk, 3, 0);
        CHECK.same("heirs", clerk.heirs(3), 1);
        CHECK.same("heir", clerk.heir(3, 0), 5);
        CHECK.same("stem of the spouse", clerk.stem(3, 5), NONE);
        CHECK.same("stem of the great-grandparent", clerk.stem(3, 0), NONE);
        clerk.estate(3, 77);
        clerk.settle();
        CHECK.paid(clerk, 3, 5, 77);
        CHECK.paid(clerk, 3, 0, 0);
        clerk.dies(0, 500);
        CHECK.same("without any kin", clerk.order(3), 4);
        CHECK.share(clerk, 3, 5, 1, 1);
    }

    /** "The spouse of E, if left" */
    private static void spouseNotLeft() {
        for (int day : new int[] {499, 500, 501}) {
            Desk clerk = marriedLadder();
            clerk.dies(5, day);
            boolean left = day == 501;
            CHECK.share(clerk, 3, 4, left ? 3 : 1, left ? 4 : 1);
            CHECK.same("heirs", clerk.heirs(3), left ? 2 : 1);
            for (int who : new int[] {1, 2, 4}) {
                clerk.exclude(who, 3, true);
            }
            CHECK.same("the spouse, or the order 3", clerk.order(3), left ? 4 : 3);
            CHECK.share(clerk, 3, left ? 5 : 0, 1, 1);
            clerk.exclude(0, 3, true);
            CHECK.same("the spouse, or the town", clerk.order(3), left ? 4 : 5);
            clerk.exclude(5, 3, true);
            CHECK.same("the town", clerk.order(3), 5);
        }
        Desk excluded = marriedLadder();
        excluded.exclude(5, 3, true);
        CHECK.share(excluded, 3, 4, 1, 1);
        CHECK.noShare(excluded, 3, 5);
        excluded.exclude(5, 3, false);
        CHECK.share(excluded, 3, 4, 3, 4);
    }

    /** "Who was a dead person's spouse stays so, even when it marries again." */
    private static void spouseOfTheDead() {
        Desk clerk = Desk.with(4);
        clerk.marry(0, 1);
        clerk.dies(0, 10);
        clerk.marry(1, 2);
        CHECK.share(clerk, 0, 1, 1, 1);
        clerk.dies(1, 20);
        CHECK.share(clerk, 0, 1, 1, 1);
        CHECK.share(clerk, 1, 2, 1, 1);
        CHECK.noShare(clerk, 1, 0);
        clerk.marry(2, 3);
        CHECK.share(clerk, 1, 2, 1, 1);
        CHECK.noShare(clerk, 1, 3);
        CHECK.same("divorced from the third", clerk.divorce(3), true);
        clerk.dies(2, 30);
        CHECK.same("without a spouse", clerk.order(2), 5);
        CHECK.same("the spouse of the second", clerk.spouse(1), 2);
        Desk divorced = Desk.with(2);
        divorced.marry(0, 1);
        divorced.divorce(0);
        divorced.dies(0, 10);
        CHECK.same("divorced", divorced.order(0), 5);
    }

    private static void spouseWhoIsKin() {
        Desk sibling = Desk.parentOf(2);
        sibling.marry(1, 2);
        sibling.dies(1, 10);
        sibling.dies(0, 10);
        CHECK.same("order", sibling.order(1), 1);
        CHECK.share(sibling, 1, 2, 1, 1);
        CHECK.same("heirs", sibling.heirs(1), 1);
        CHECK.same("stem", sibling.stem(1, 2), 0);
        sibling.childOf(0);
        CHECK.share(sibling, 1, 2, 3, 4);
        CHECK.share(sibling, 1, 3, 1, 4);
        Desk old = Desk.with(1);
        for (int who = 1; who <= 3; who++) {
            old.childOf(who - 1);
        }
        old.marry(0, 3);
        old.dies(3, 10);
        old.dies(2, 10);
        old.dies(1, 10);
        CHECK.same("a spouse who is the order 3", old.order(3), 4);
        CHECK.share(old, 3, 0, 1, 1);
        CHECK.same("has no stem", old.stem(3, 0), NONE);
    }

    /** "When there is neither, the TOWN takes all."; "5 the town" */
    private static void townTakesAll() {
        Desk clerk = Desk.with(3);
        clerk.childOf(1);
        clerk.marry(0, 1);
        clerk.estate(0, 9);
        clerk.dies(0, 10);
        CHECK.same("with a spouse", clerk.order(0), 4);
        clerk.exclude(1, 0, true);
        CHECK.same("order", clerk.order(0), 5);
        CHECK.same("heirs", clerk.heirs(0), 0);
        CHECK.same("heir", clerk.heir(0, 0), NONE);
        for (int who = 0; who < 4; who++) {
            CHECK.noShare(clerk, 0, who);
            CHECK.same("stem", clerk.stem(0, who), NONE);
        }
        clerk.settle();
        CHECK.paid(clerk, 0, NONE, 9);
        CHECK.same("got by the town", clerk.got(NONE), 9);
        CHECK.same("got by the spouse", clerk.got(1), 0);
    }

    /** "in lowest terms, the numerator in the upper 32 bits, the denominator in the lower ones; 0 for none" */
    private static void lowestTerms() {
        Desk clerk = Desk.with(2);
        clerk.marry(0, 1);
        clerk.dies(0, 10);
        CHECK.same("all", clerk.share(0, 1), (1L << 32) + 1);
        long[] due = {(3L << 32) + 4, (3L << 32) + 8, (1L << 32) + 4, (3L << 32) + 16, (3L << 32) + 20,
            (1L << 32) + 8, (3L << 32) + 28, (3L << 32) + 32, (1L << 32) + 12};
        for (int children = 1; children <= due.length; children++) {
            int child = clerk.childOf(0);
            CHECK.same("three quarters in " + children, clerk.share(0, child), due[children - 1]);
            CHECK.same("a quarter", clerk.share(0, 1), (1L << 32) + 4);
        }
        CHECK.same("none", clerk.share(0, 0), 0);
    }

    /** "of the stems that the order of an estate begins with" */
    private static void stemsAtTheOrdersHeight() {
        Desk clerk = Desk.with(4);
        clerk.person(3, 1);
        clerk.person(2, 0);
        clerk.person(5, 4);
        clerk.person(3, 2);
        clerk.person(1, 2);
        clerk.childOf(3);
        for (int who = 0; who <= 6; who++) {
            clerk.dies(who, 5);
        }
        CHECK.same("order", clerk.order(6), 2);
        CHECK.same("the lesser of 3 and 2", clerk.stem(6, 7), 2);
        CHECK.same("the lesser of 1 and 2", clerk.stem(6, 8), 1);
        CHECK.same("3 alone", clerk.stem(6, 9), 3);
        CHECK.same("who is gone", clerk.stem(6, 3), NONE);
        Desk siblings = Desk.with(2);
        siblings.person(1, 0);
        siblings.person(1, 0);
        siblings.dies(2, 5);
        CHECK.same("a parent's own stem", siblings.stem(2, 1), 1);
        CHECK.same("behind parents who are left", siblings.stem(2, 3), NONE);
        siblings.dies(1, 5);
        CHECK.same("the gone parent, though the greater one", siblings.stem(2, 3), 1);
        siblings.dies(0, 5);
        CHECK.same("the lesser parent", siblings.stem(2, 3), 0);
    }

    /** "NONE when there is none such" */
    private static void noStem() {
        Desk clerk = marriedLadder();
        int grandchild = clerk.childOf(4);
        CHECK.same("the spouse", clerk.stem(3, 5), NONE);
        CHECK.same("the deceased", clerk.stem(3, 3), NONE);
        CHECK.same("behind a child", clerk.stem(3, grandchild), NONE);
        CHECK.same("of a later order", clerk.stem(3, 2), NONE);
        CHECK.same("of the last order", clerk.stem(3, 0), NONE);
        CHECK.same("a child", clerk.stem(3, 4), 4);
        clerk.exclude(4, 3, true);
        CHECK.same("an excluded child", clerk.stem(3, 4), NONE);
        CHECK.same("the grandchild now", clerk.stem(3, grandchild), 4);
        clerk.exclude(grandchild, 3, true);
        CHECK.same("an excluded grandchild", clerk.stem(3, grandchild), NONE);
        CHECK.same("the parent now", clerk.stem(3, 2), 2);
        CHECK.same("not yet the grandparent", clerk.stem(3, 1), NONE);
    }
}
