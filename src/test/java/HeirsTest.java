/** Promises 11 (heirs), 12 (heir), 13 (share), 14 (order) and 15 (stem). */
public final class HeirsTest {
    private static final int NONE = SuccessionClerk.NONE;
    private static final Check CHECK = new Check();

    public static void main(String[] args) {
        childrenAndSpouse();
        stemsOfTheGone();
        stemsWithoutHeirs();
        stemsThatMeet();
        parentsAndSiblings();
        oneLineAlone();
        grandparents();
        greatGrandparents();
        ancestorTwice();
        spouseAndOrders();
        spouseWhoIsKin();
        spouseNotLeft();
        town();
        manyBranches();
        leastStem();
        wrongCalls();
        CHECK.end();
    }

    private static void childrenAndSpouse() {
        Desk clerk = Desk.with(3);
        clerk.person(1, NONE);
        clerk.person(NONE, 1);
        clerk.person(1, 2);
        clerk.marry(1, 2);
        clerk.dies(1, 0);
        CHECK.same("order", clerk.order(1), 0);
        CHECK.same("heirs", clerk.heirs(1), 4);
        int[] due = {2, 3, 4, 5, NONE, NONE};
        for (int i = 0; i < due.length; i++) {
            CHECK.same("heir " + i, clerk.heir(1, i), due[i]);
        }
        CHECK.same("heir -1", clerk.heir(1, -1), NONE);
        CHECK.same("heir of the least int", clerk.heir(1, Integer.MIN_VALUE), NONE);
        CHECK.same("heir of the greatest int", clerk.heir(1, Integer.MAX_VALUE), NONE);
        CHECK.share(clerk, 1, 2, 1, 4);
        CHECK.share(clerk, 1, 3, 1, 4);
        CHECK.share(clerk, 1, 5, 1, 4);
        CHECK.same("no kin", clerk.share(1, 0), 0);
        CHECK.same("the deceased", clerk.share(1, 1), 0);
        CHECK.same("stem of a child", clerk.stem(1, 4), 4);
        CHECK.same("stem of the spouse", clerk.stem(1, 2), NONE);
        CHECK.same("stem of the deceased", clerk.stem(1, 1), NONE);
    }

    private static void stemsOfTheGone() {
        Desk clerk = Desk.with(1);
        clerk.person(0, NONE);
        clerk.person(0, NONE);
        clerk.person(1, NONE);
        clerk.person(1, NONE);
        clerk.person(1, NONE);
        clerk.person(3, NONE);
        clerk.person(3, NONE);
        clerk.dies(0, 10);
        CHECK.share(clerk, 0, 1, 1, 2);
        CHECK.same("behind a living child", clerk.share(0, 3), 0);
        clerk.dies(1, 10);
        CHECK.share(clerk, 0, 3, 1, 6);
        clerk.exclude(3, 0, true);
        CHECK.share(clerk, 0, 6, 1, 12);
        CHECK.share(clerk, 0, 4, 1, 6);
        CHECK.share(clerk, 0, 2, 1, 2);
        CHECK.same("heirs", clerk.heirs(0), 5);
        CHECK.same("a great-grandchild's stem", clerk.stem(0, 7), 1);
        CHECK.same("the stem of one who is gone", clerk.stem(0, 3), NONE);
    }

    private static void stemsWithoutHeirs() {
        Desk clerk = Desk.with(1);
        clerk.person(0, NONE);
        clerk.person(0, NONE);
        clerk.person(1, NONE);
        clerk.dies(0, 10);
        clerk.dies(1, 3);
        clerk.dies(3, 4);
        CHECK.share(clerk, 0, 2, 1, 1);
        CHECK.same("heirs", clerk.heirs(0), 1);
        CHECK.same("the stem without heirs", clerk.stem(0, 3), NONE);
    }

    private static void stemsThatMeet() {
        Desk clerk = Desk.with(1);
        clerk.person(0, NONE);
        clerk.person(0, NONE);
        clerk.person(0, NONE);
        clerk.person(1, 2);
        clerk.person(2, NONE);
        clerk.dies(0, 10);
        clerk.dies(1, 5);
        clerk.dies(2, 5);
        CHECK.share(clerk, 0, 4, 1, 2);
        CHECK.share(clerk, 0, 5, 1, 6);
        CHECK.share(clerk, 0, 3, 1, 3);
        CHECK.same("the least of two stems", clerk.stem(0, 4), 1);
        clerk.exclude(4, 0, true);
        CHECK.same("now in neither", clerk.stem(0, 4), NONE);
        CHECK.share(clerk, 0, 5, 1, 2);
    }

    private static void parentsAndSiblings() {
        Desk clerk = Desk.with(2);
        clerk.person(0, 1);
        clerk.person(0, 1);
        clerk.person(0, NONE);
        clerk.dies(2, 100);
        CHECK.same("order of parents", clerk.order(2), 1);
        CHECK.share(clerk, 2, 0, 1, 2);
        CHECK.share(clerk, 2, 1, 1, 2);
        CHECK.same("a sibling behind parents", clerk.share(2, 3), 0);
        clerk.dies(0, 50);
        CHECK.share(clerk, 2, 3, 1, 4);
        CHECK.share(clerk, 2, 4, 1, 4);
        CHECK.share(clerk, 2, 1, 1, 2);
        clerk.dies(1, 50);
        CHECK.share(clerk, 2, 3, 3, 4);
        CHECK.share(clerk, 2, 4, 1, 4);
        CHECK.same("a sibling's stem is the lesser parent", clerk.stem(2, 3), 0);
        clerk.exclude(0, 2, true);
        CHECK.share(clerk, 2, 3, 3, 4);
    }

    private static void oneLineAlone() {
        Desk clerk = Desk.with(2);
        clerk.person(0, 1);
        clerk.person(NONE, 1);
        clerk.dies(2, 100);
        clerk.dies(0, 50);
        CHECK.share(clerk, 2, 1, 1, 1);
        clerk.dies(1, 50);
        CHECK.share(clerk, 2, 3, 1, 1);
        CHECK.same("a half sibling's stem", clerk.stem(2, 3), 1);
        Desk other = Desk.with(1);
        other.person(NONE, 0);
        other.dies(1, 1);
        CHECK.share(other, 1, 0, 1, 1);
    }

    private static void grandparents() {
        Desk clerk = Desk.with(4);
        clerk.person(0, 1);
        clerk.person(2, 3);
        clerk.person(4, 5);
        clerk.person(0, NONE);
        clerk.person(0, NONE);
        clerk.dies(6, 100);
        clerk.dies(4, 9);
        clerk.dies(5, 9);
        CHECK.same("order of grandparents", clerk.order(6), 2);
        for (int who = 0; who < 4; who++) {
            CHECK.share(clerk, 6, who, 1, 4);
            CHECK.same("stem of a grandparent", clerk.stem(6, who), who);
        }
        clerk.dies(0, 8);
        CHECK.share(clerk, 6, 7, 1, 8);
        CHECK.share(clerk, 6, 8, 1, 8);
        CHECK.same("stem of an uncle", clerk.stem(6, 8), 0);
        clerk.exclude(2, 6, true);
        CHECK.share(clerk, 6, 3, 1, 2);
        clerk.exclude(3, 6, true);
        CHECK.share(clerk, 6, 1, 1, 2);
        CHECK.share(clerk, 6, 7, 1, 4);
        clerk.exclude(1, 6, true);
        CHECK.share(clerk, 6, 7, 1, 2);
    }

    private static void greatGrandparents() {
        Desk clerk = Desk.with(2);
        clerk.person(0, 1);
        clerk.person(2, NONE);
        clerk.person(NONE, 3);
        clerk.person(0, NONE);
        for (int who = 2; who <= 4; who++) {
            clerk.dies(who, who == 4 ? 100 : 1);
        }
        CHECK.same("order of great-grandparents", clerk.order(4), 3);
        CHECK.share(clerk, 4, 0, 1, 2);
        CHECK.share(clerk, 4, 1, 1, 2);
        clerk.dies(0, 2);
        CHECK.share(clerk, 4, 5, 1, 2);
        CHECK.same("stem of a great-uncle", clerk.stem(4, 5), 0);
        clerk.dies(5, 2);
        CHECK.share(clerk, 4, 1, 1, 1);
        Desk other = Desk.with(1);
        for (int who = 1; who <= 4; who++) {
            other.person(who - 1, NONE);
            other.dies(who, who == 4 ? 100 : 1);
        }
        CHECK.same("one more generation is no kin", other.order(4), 5);
        CHECK.same("nor has it a share", other.share(4, 0), 0);
    }

    private static void ancestorTwice() {
        Desk clerk = Desk.with(2);
        clerk.person(0, NONE);
        clerk.person(0, 1);
        clerk.person(2, 3);
        clerk.dies(4, 100);
        clerk.dies(2, 1);
        clerk.dies(3, 1);
        CHECK.share(clerk, 4, 0, 3, 4);
        CHECK.share(clerk, 4, 1, 1, 4);
        CHECK.same("heirs", clerk.heirs(4), 2);
        clerk.amend(4, 2, 0);
        CHECK.same("a parent who is a grandparent too", clerk.order(4), 1);
        CHECK.share(clerk, 4, 0, 1, 1);
    }

    private static void spouseAndOrders() {
        Desk clerk = Desk.with(1);
        clerk.person(0, NONE);
        clerk.person(1, NONE);
        clerk.person(2, NONE);
        clerk.person(3, NONE);
        clerk.person(NONE, NONE);
        clerk.marry(3, 5);
        clerk.dies(3, 100);
        CHECK.share(clerk, 3, 5, 1, 4);
        CHECK.share(clerk, 3, 4, 3, 4);
        clerk.exclude(4, 3, true);
        CHECK.same("order with a parent", clerk.order(3), 1);
        CHECK.share(clerk, 3, 5, 1, 2);
        CHECK.share(clerk, 3, 2, 1, 2);
        clerk.dies(2, 1);
        CHECK.same("order with a grandparent", clerk.order(3), 2);
        CHECK.share(clerk, 3, 5, 1, 2);
        CHECK.share(clerk, 3, 1, 1, 2);
        clerk.dies(1, 1);
        CHECK.same("the spouse alone", clerk.order(3), 4);
        CHECK.share(clerk, 3, 5, 1, 1);
        CHECK.same("no great-grandparent", clerk.share(3, 0), 0);
        CHECK.same("no stem", clerk.stem(3, 0), NONE);
        CHECK.same("heirs", clerk.heirs(3), 1);
        clerk.dies(5, 100);
        CHECK.same("order without the spouse", clerk.order(3), 3);
        CHECK.share(clerk, 3, 0, 1, 1);
        CHECK.same("stem of a great-grandparent", clerk.stem(3, 0), 0);
    }

    private static void spouseWhoIsKin() {
        Desk clerk = Desk.with(1);
        clerk.person(0, NONE);
        clerk.person(0, NONE);
        clerk.marry(1, 2);
        clerk.dies(1, 100);
        clerk.dies(0, 1);
        CHECK.same("order of a sibling", clerk.order(1), 1);
        CHECK.share(clerk, 1, 2, 1, 1);
        CHECK.same("stem of a spouse who is kin", clerk.stem(1, 2), 0);
        clerk.amend(2, 1, NONE);
        clerk.person(1, NONE);
        CHECK.share(clerk, 1, 2, 5, 8);
        CHECK.share(clerk, 1, 3, 3, 8);
    }

    private static void spouseNotLeft() {
        Desk clerk = Desk.with(2);
        clerk.person(0, NONE);
        clerk.marry(0, 1);
        clerk.dies(0, 50);
        clerk.exclude(1, 0, true);
        CHECK.share(clerk, 0, 2, 1, 1);
        CHECK.same("an excluded spouse", clerk.share(0, 1), 0);
        clerk.exclude(1, 0, false);
        clerk.dies(1, 51);
        CHECK.share(clerk, 0, 1, 1, 4);
        CHECK.same("who died before inherits nothing", clerk.share(1, 0), 0);
        CHECK.same("no stepchild", clerk.order(1), 5);
    }

    private static void town() {
        Desk clerk = Desk.with(2);
        clerk.dies(0, 50);
        CHECK.same("order", clerk.order(0), 5);
        CHECK.same("heirs", clerk.heirs(0), 0);
        CHECK.same("heir 0", clerk.heir(0, 0), NONE);
        CHECK.same("share", clerk.share(0, 1), 0);
        CHECK.same("stem", clerk.stem(0, 1), NONE);
    }

    /** A chain where each one but the last two has the next two as children. */
    private static void manyBranches() {
        Desk clerk = Desk.with(2);
        clerk.marry(0, 1);
        clerk.person(0, NONE);
        clerk.person(0, 2);
        for (int who = 4; who < 20; who++) {
            clerk.person(who - 2, who - 1);
        }
        for (int who = 0; who < 18; who++) {
            if (who != 1) {
                clerk.dies(who, 5);
            }
        }
        CHECK.share(clerk, 0, 1, 1, 4);
        // Steps of 1 or 2, alike, hit the 17th place with (2 - 1/2^17)/3; three quarters of that.
        CHECK.share(clerk, 0, 18, 262143, 524288);
        CHECK.share(clerk, 0, 19, 131073, 524288);
    }

    private static void leastStem() {
        Desk clerk = Desk.with(2);
        clerk.person(1, NONE);
        clerk.person(0, NONE);
        clerk.person(2, 3);
        clerk.person(0, 1);
        clerk.dies(4, 100);
        for (int who = 0; who < 4; who++) {
            clerk.dies(who, 1);
        }
        CHECK.same("order", clerk.order(4), 2);
        CHECK.same("the lesser number, not the first line", clerk.stem(4, 5), 0);
        clerk.amend(5, 1, NONE);
        CHECK.same("the only one", clerk.stem(4, 5), 1);
        Desk other = Desk.with(1);
        other.person(0, NONE);
        other.person(0, 1);
        other.dies(0, 5);
        other.dies(1, 4);
        CHECK.same("a child that is a grandchild too", other.stem(0, 2), 1);
        CHECK.share(other, 0, 2, 1, 1);
    }

    private static void wrongCalls() {
        Desk clerk = Desk.with(3);
        clerk.dies(0, 1);
        CHECK.watch(clerk);
        CHECK.refusedState("heirs of the living", () -> clerk.heirs(1));
        CHECK.refusedState("heir of the living", () -> clerk.heir(1, 0));
        CHECK.refusedState("share of the living", () -> clerk.share(1, 0));
        CHECK.refusedState("order of the living", () -> clerk.order(1));
        CHECK.refusedState("stem of the living", () -> clerk.stem(1, 0));
        CHECK.refusedArgument("heirs of nobody", () -> clerk.heirs(3));
        CHECK.refusedArgument("heir of nobody", () -> clerk.heir(3, 0));
        CHECK.refusedArgument("share of nobody", () -> clerk.share(3, 0));
        CHECK.refusedArgument("order of nobody", () -> clerk.order(3));
        CHECK.refusedArgument("stem of nobody", () -> clerk.stem(3, 0));
        CHECK.refusedArgument("heirs of NONE", () -> clerk.heirs(NONE));
        CHECK.refusedArgument("heir of NONE", () -> clerk.heir(NONE, 0));
        CHECK.refusedArgument("order of NONE", () -> clerk.order(NONE));
        CHECK.refusedArgument("nobody's share", () -> clerk.share(0, 3));
        CHECK.refusedArgument("NONE's share", () -> clerk.share(0, NONE));
        CHECK.refusedArgument("nobody's stem", () -> clerk.stem(0, 3));
        CHECK.refusedArgument("NONE's stem", () -> clerk.stem(0, NONE));
        CHECK.refusedArgument("nobody's share of the living", () -> clerk.share(1, 3));
        CHECK.refusedArgument("nobody's stem of the living", () -> clerk.stem(1, NONE));
        CHECK.unchanged();
    }
}
