/**
 * "Terms": who is in when gifts are brought in, and what is due to whom; a test quotes the
 * sentence that it holds.
 */
public final class GiftsTest {
    private static final int NONE = SuccessionClerk.NONE;
    private static final int MOST = 1000000;
    private static final Check CHECK = new Check();

    public static void main(String[] args) {
        belowAtAndAboveAnEqualPart();
        equalPartsOfThirds();
        equalPartsOfQuarters();
        justAboveAnEqualPart();
        thoseInNoMoreDoNotCount();
        goesOnUntilThereIsNone();
        goesOnInAnyOrder();
        oneIsAlwaysIn();
        nothingToDivide();
        stemsTakeThePart();
        nothingIsDueToItsStem();
        stemsWithoutHeirsAreNotIn();
        excludedChildrenBringIn();
        giftsFromThisParentAlone();
        giftsOfAChildThatIsAGrandchildToo();
        giftsStayRecorded();
        notInOtherOrders();
        spousesPartIsOfTheTotal();
        spouseWhoIsAChild();
        sharesAreWithoutGifts();
        greatestSums();
        CHECK.end();
    }

    /** Person 0, who died, with an estate and so many children. */
    private static Desk estateFor(int children, int cents) {
        Desk clerk = Desk.parentOf(children);
        clerk.estate(0, cents);
        clerk.dies(0, 5);
        return clerk;
    }

    /** The same with 1 as the spouse of 0, and the children from 2 on. */
    private static Desk estateWithSpouse(int children, int cents) {
        Desk clerk = Desk.with(2);
        for (int i = 0; i < children; i++) {
            clerk.childOf(0);
        }
        clerk.marry(0, 1);
        clerk.estate(0, cents);
        clerk.dies(0, 5);
        return clerk;
    }

    /** "If the gifts of one that is in are above an EQUAL PART ... it is in no more" */
    private static void belowAtAndAboveAnEqualPart() {
        Desk clerk = estateFor(3, 60);
        CHECK.settledTo("no gifts", clerk, 0, 0, 20, 20, 20);
        clerk.gift(1, 0, 27);
        CHECK.settledTo("an equal part of 29, two above the gifts", clerk, 0, 0, 2, 29, 29);
        clerk.gift(1, 0, 3);
        CHECK.settledTo("an equal part of 30, as the gifts", clerk, 0, 0, 0, 30, 30);
        clerk.gift(1, 0, 1);
        CHECK.settledTo("a cent above", clerk, 0, 0, 0, 30, 30);
        clerk.gift(1, 0, MOST - 31);
        CHECK.settledTo("far above", clerk, 0, 0, 0, 30, 30);
        Desk two = estateFor(2, 10);
        two.gift(2, 0, 9);
        CHECK.settledTo("half a cent below", two, 0, 0, 10, 0);
        two.gift(2, 0, 1);
        CHECK.settledTo("as the gifts", two, 0, 0, 10, 0);
        two.gift(2, 0, 1);
        CHECK.settledTo("half a cent above", two, 0, 0, 10, 0);
    }

    /** "which is C and the gifts of all that are in, divided by how many these are": not rounded. */
    private static void equalPartsOfThirds() {
        Desk clerk = estateFor(3, 10);
        clerk.gift(1, 0, 4);
        CHECK.settledTo("dues of 2/3, 14/3 and 14/3", clerk, 0, 0, 1, 5, 4);
        clerk.gift(1, 0, 1);
        CHECK.settledTo("an equal part of 5", clerk, 0, 0, 0, 5, 5);
        clerk.gift(1, 0, 1);
        CHECK.settledTo("a third below the gifts", clerk, 0, 0, 0, 5, 5);
        Desk other = estateFor(3, 100);
        other.gift(1, 0, 1);
        other.gift(2, 0, 3);
        CHECK.settledTo("dues of 101/3, 95/3 and 104/3", other, 0, 0, 34, 32, 34);
        other.gift(3, 0, 33);
        CHECK.settledTo("dues of 134/3, 128/3 and 38/3", other, 0, 0, 45, 43, 12);
    }

    /** "let C be the part of the total that the order 0 takes": three quarters, not rounded. */
    private static void equalPartsOfQuarters() {
        Desk clerk = estateWithSpouse(2, 2);
        clerk.gift(2, 0, 1);
        CHECK.settledTo("dues of 2/4, 1/4 and 5/4", clerk, 0, 0, 1, 0, 1);
        clerk.gift(2, 0, 1);
        CHECK.settledTo("an equal part of 7/4, below the gifts: dues of 2/4 and 6/4", clerk, 0, 0, 1, 0, 1);
        Desk more = estateWithSpouse(2, 5);
        more.gift(2, 0, 3);
        CHECK.settledTo("dues of 10/8, 3/8 and 27/8", more, 0, 0, 1, 1, 3);
        more.gift(2, 0, 1);
        CHECK.settledTo("an equal part of 31/8: dues of 5/4 and 15/4", more, 0, 0, 1, 0, 4);
        Desk three = estateWithSpouse(3, 7);
        three.gift(4, 0, 2);
        CHECK.settledTo("dues of 21/12, 29/12, 29/12 and 5/12", three, 0, 0, 2, 3, 2, 0);
        three.gift(3, 0, 3);
        CHECK.settledTo("dues of 21/12, 41/12, 5/12 and 17/12", three, 0, 0, 2, 4, 0, 1);
    }

    /** An eighth of a cent above: dues of 1/4 to the spouse, and to each of three grandchildren. */
    private static void justAboveAnEqualPart() {
        Desk clerk = estateWithSpouse(2, 1);
        clerk.gift(2, 0, 1);
        for (int i = 0; i < 3; i++) {
            clerk.childOf(3);
        }
        clerk.dies(3, 5);
        CHECK.settledTo("an equal part of 7/8, below the gifts", clerk, 0, 0, 1, 0, 0, 0, 0, 0);
        clerk.estate(0, 2);
        CHECK.settledTo("dues of 4/8, 2/8, and thrice 10/24", clerk, 0, 0, 1, 0, 0, 1, 0, 0);
    }

    private static void thoseInNoMoreDoNotCount() {
        Desk clerk = estateFor(3, 30);
        clerk.gift(2, 0, MOST);
        clerk.gift(3, 0, 6);
        CHECK.settledTo("an equal part of 18 for two", clerk, 0, 0, 18, 0, 12);
        CHECK.same("all is paid", clerk.paid(0, 1) + clerk.paid(0, 2) + clerk.paid(0, 3), clerk.total(0));
    }

    /** "this goes on until there is none" */
    private static void goesOnUntilThereIsNone() {
        Desk clerk = estateFor(19, 3);
        for (int child = 2; child <= 19; child++) {
            clerk.gift(child, 0, 1 << child - 2);
        }
        clerk.settle();
        long[] due = {0, 2, 1, 0};
        for (int who = 0; who < 20; who++) {
            CHECK.paid(clerk, 0, who, who < due.length ? due[who] : 0);
        }
        clerk.estate(0, 5);
        CHECK.settledTo("an equal part of 12/4, below the fourth's gifts", clerk, 0, 0, 3, 2, 0, 0);
        clerk.estate(0, 6);
        CHECK.settledTo("dues of 9/3, 6/3 and 3/3", clerk, 0, 0, 3, 2, 1, 0);
        clerk.estate(0, 9);
        CHECK.settledTo("an equal part of 16/4, as the fourth's gifts", clerk, 0, 0, 4, 3, 2, 0);
        clerk.estate(0, 10);
        CHECK.settledTo("dues of 17/4, 13/4, 9/4 and 1/4", clerk, 0, 0, 5, 3, 2, 0);
    }

    private static void goesOnInAnyOrder() {
        int[][] orders = {{1, 2, 3, 4}, {4, 3, 2, 1}, {2, 4, 1, 3}, {3, 1, 4, 2}};
        int[] gifts = {0, 100, 500, 3000};
        for (int[] order : orders) {
            Desk clerk = estateFor(4, 60);
            for (int i = 1; i < 4; i++) {
                clerk.gift(order[i], 0, gifts[i]);
            }
            clerk.settle();
            CHECK.paid(clerk, 0, order[0], 60);
            CHECK.paid(clerk, 0, order[1], 0);
            CHECK.paid(clerk, 0, order[2], 0);
            CHECK.paid(clerk, 0, order[3], 0);
        }
    }

    /** The one with the least gifts is never above an equal part. */
    private static void oneIsAlwaysIn() {
        Desk only = estateFor(1, 12);
        only.gift(1, 0, MOST);
        CHECK.settledTo("an only child", only, 0, 0, 12);
        Desk two = estateFor(2, 1);
        two.gift(1, 0, MOST);
        two.gift(2, 0, MOST - 1);
        CHECK.settledTo("the lesser gifts", two, 0, 0, 0, 1);
        two.gift(2, 0, 1);
        CHECK.settledTo("gifts alike: halves", two, 0, 0, 1, 0);
        two.estate(0, 2);
        CHECK.settledTo("gifts alike", two, 0, 0, 1, 1);
        Desk three = estateFor(3, 9);
        for (int child = 1; child <= 3; child++) {
            three.gift(child, 0, MOST);
        }
        CHECK.settledTo("all gifts", three, 0, 0, 3, 3, 3);
        Desk allButOne = estateFor(19, 1);
        for (int child = 1; child <= 18; child++) {
            allButOne.gift(child, 0, 1000);
        }
        allButOne.settle();
        CHECK.paid(allButOne, 0, 1, 0);
        CHECK.paid(allButOne, 0, 18, 0);
        CHECK.paid(allButOne, 0, 19, 1);
    }

    private static void nothingToDivide() {
        Desk clerk = estateFor(2, 0);
        CHECK.settledTo("nothing at all", clerk, 0, 0, 0, 0);
        clerk.gift(1, 0, 1);
        CHECK.settledTo("an equal part of a half, then of 0", clerk, 0, 0, 0, 0);
        clerk.gift(2, 0, 1);
        CHECK.settledTo("an equal part of 1", clerk, 0, 0, 0, 0);
        CHECK.same("it is settled", clerk.settle(), 1);
        CHECK.same("the total", clerk.total(0), 0);
        CHECK.paid(clerk, 0, NONE, 0);
    }

    /** "The part of each one that is in is an equal part less its gifts; its stem takes that." */
    private static void stemsTakeThePart() {
        Desk clerk = estateFor(2, 100);
        clerk.childOf(1);
        clerk.childOf(1);
        clerk.childOf(3);
        clerk.dies(1, 5);
        clerk.gift(1, 0, 20);
        CHECK.settledTo("40 for two, and 60", clerk, 0, 0, 0, 60, 20, 20, 0);
        clerk.dies(3, 5);
        CHECK.settledTo("through the third", clerk, 0, 0, 0, 60, 0, 20, 20);
        clerk.gift(3, 1, 15);
        clerk.gift(4, 1, 500);
        clerk.gift(5, 3, 7);
        CHECK.settledTo("gifts to grandchildren do not count", clerk, 0, 0, 0, 60, 0, 20, 20);
        clerk.exclude(5, 0, true);
        CHECK.settledTo("the fourth alone", clerk, 0, 0, 0, 60, 0, 40, 0);
    }

    /** "it is in no more, and nothing is due to its stem" */
    private static void nothingIsDueToItsStem() {
        Desk clerk = estateFor(3, 100);
        clerk.childOf(1);
        clerk.person(1, 2);
        clerk.dies(1, 5);
        clerk.dies(2, 5);
        clerk.gift(1, 0, 51);
        CHECK.settledTo("51 is above an equal part of 151/3", clerk, 0, 0, 0, 0, 50, 0, 50);
        CHECK.same("still heirs", clerk.heirs(0), 3);
        clerk.gift(1, 0, 149);
        clerk.gift(2, 0, 90);
        CHECK.settledTo("90 is below an equal part of 190/2", clerk, 0, 0, 0, 0, 95, 0, 5);
        clerk.gift(2, 0, 11);
        CHECK.settledTo("101 is above an equal part of 201/2", clerk, 0, 0, 0, 0, 100, 0, 0);
        CHECK.same("got by the first's child", clerk.got(4), 0);
        CHECK.same("got by the child of both", clerk.got(5), 0);
    }

    /** "Those of its children whose stems have heirs are IN at first." */
    private static void stemsWithoutHeirsAreNotIn() {
        Desk clerk = estateFor(3, 100);
        clerk.gift(1, 0, 40);
        clerk.gift(2, 0, 10);
        CHECK.settledTo("all are in", clerk, 0, 0, 10, 40, 50);
        clerk.dies(1, 5);
        CHECK.settledTo("two are in", clerk, 0, 0, 0, 45, 55);
        int grandchild = clerk.childOf(1);
        CHECK.settledTo("all by a grandchild", clerk, 0, 0, 0, 40, 50, 10);
        clerk.exclude(grandchild, 0, true);
        CHECK.settledTo("two again", clerk, 0, 0, 0, 45, 55, 0);
        clerk.dies(3, 6);
        CHECK.settledTo("who died later is in", clerk, 0, 0, 0, 45, 55, 0);
    }

    private static void excludedChildrenBringIn() {
        Desk clerk = estateFor(2, 100);
        clerk.gift(1, 0, 30);
        clerk.exclude(1, 0, true);
        CHECK.settledTo("an excluded one without children", clerk, 0, 0, 0, 100);
        clerk.childOf(1);
        CHECK.settledTo("by its child", clerk, 0, 0, 0, 65, 35);
    }

    /** "the gifts from E to its children are brought in" */
    private static void giftsFromThisParentAlone() {
        Desk clerk = Desk.with(2);
        clerk.person(0, 1);
        clerk.person(1, 0);
        clerk.estate(0, 100);
        clerk.estate(1, 60);
        clerk.gift(2, 0, 10);
        clerk.gift(3, 1, 20);
        clerk.dies(0, 5);
        clerk.dies(1, 5);
        CHECK.settledTo("from the one", clerk, 0, 0, 0, 45, 55);
        CHECK.settledTo("from the other", clerk, 1, 0, 0, 40, 20);
    }

    private static void giftsOfAChildThatIsAGrandchildToo() {
        Desk clerk = Desk.parentOf(1);
        clerk.person(0, 1);
        clerk.estate(0, 100);
        clerk.gift(2, 0, 20);
        clerk.gift(2, 1, 7);
        clerk.dies(0, 5);
        CHECK.settledTo("both are children", clerk, 0, 0, 60, 40);
        clerk.dies(1, 5);
        CHECK.settledTo("its own 40, and the 60 of its parent", clerk, 0, 0, 0, 100);
        int other = clerk.childOf(1);
        CHECK.settledTo("its own 40, and half of the 60", clerk, 0, 0, 0, 70, 30);
        clerk.gift(2, 0, 100);
        CHECK.settledTo("in no more for itself, but in its parent's stem", clerk, 0, 0, 0, 50, 50);
        clerk.exclude(2, 0, true);
        CHECK.settledTo("excluded", clerk, 0, 0, 0, 0, 100);
        CHECK.same("the only heir", clerk.heir(0, 0), other);
    }

    /** "They stay recorded, when its parents become others; they count where it is a child of that one." */
    private static void giftsStayRecorded() {
        Desk clerk = Desk.with(2);
        clerk.childOf(0);
        clerk.childOf(0);
        clerk.childOf(1);
        clerk.estate(0, 100);
        clerk.estate(1, 100);
        clerk.gift(2, 0, 40);
        clerk.dies(0, 5);
        clerk.dies(1, 5);
        CHECK.settledTo("a child of 0", clerk, 0, 0, 0, 30, 70, 0);
        clerk.amend(2, 1, NONE);
        CHECK.settledTo("no child of 0", clerk, 0, 0, 0, 0, 100, 0);
        CHECK.settledTo("a child of 1, without gifts from it", clerk, 1, 0, 0, 50, 0, 50);
        clerk.gift(2, 1, 10);
        CHECK.settledTo("with gifts from it", clerk, 1, 0, 0, 45, 0, 55);
        clerk.amend(2, 1, 0);
        CHECK.settledTo("a child of 0 again", clerk, 0, 0, 0, 30, 70, 0);
        CHECK.settledTo("and of 1", clerk, 1, 0, 0, 45, 0, 55);
        CHECK.same("all gifts", clerk.gift(2, 0, 1), 41);
    }

    /** "but in the order 0": elsewhere a due is the share of the total. */
    private static void notInOtherOrders() {
        Desk clerk = Desk.with(1);
        clerk.childOf(0);
        clerk.childOf(1);
        clerk.childOf(1);
        clerk.childOf(1);
        clerk.childOf(0);
        clerk.gift(2, 1, 50);
        clerk.gift(3, 1, 90);
        clerk.gift(1, 0, 70);
        clerk.estate(2, 100);
        clerk.dies(1, 1);
        clerk.dies(2, 5);
        CHECK.settledTo("the order 1", clerk, 2, 0, 0, 0, 50, 50, 0);
        clerk.exclude(3, 2, true);
        clerk.exclude(4, 2, true);
        CHECK.settledTo("the order 2", clerk, 2, 100, 0, 0, 0, 0, 0);
        clerk.dies(0, 1);
        CHECK.settledTo("the order 2 by an uncle", clerk, 2, 0, 0, 0, 0, 0, 100);
        clerk.person(2, NONE);
        clerk.gift(6, 2, 30);
        clerk.dies(6, 5);
        CHECK.settledTo("a child without heirs", clerk, 2, 0, 0, 0, 0, 0, 100);
    }

    private static void spousesPartIsOfTheTotal() {
        Desk clerk = estateWithSpouse(2, 100);
        clerk.gift(2, 0, 15);
        CHECK.settledTo("a quarter of the total, without the gifts", clerk, 0, 0, 25, 30, 45);
        clerk.gift(2, 0, 60);
        CHECK.settledTo("as an equal part", clerk, 0, 0, 25, 0, 75);
        clerk.gift(2, 0, 100);
        CHECK.settledTo("above an equal part", clerk, 0, 0, 25, 0, 75);
        clerk.dies(1, 5);
        CHECK.settledTo("no spouse who is left", clerk, 0, 0, 0, 0, 100);
    }

    private static void spouseWhoIsAChild() {
        Desk clerk = Desk.parentOf(2);
        clerk.marry(0, 1);
        clerk.estate(0, 100);
        clerk.dies(0, 5);
        CHECK.settledTo("a quarter and a half of the rest", clerk, 0, 0, 63, 37);
        clerk.gift(1, 0, 25);
        CHECK.settledTo("a quarter and an equal part less gifts", clerk, 0, 0, 50, 50);
        clerk.gift(1, 0, 100);
        CHECK.settledTo("a quarter alone", clerk, 0, 0, 25, 75);
    }

    /** Gifts are brought in when it is settled, and change neither shares nor heirs. */
    private static void sharesAreWithoutGifts() {
        Desk clerk = estateFor(2, 100);
        clerk.gift(1, 0, MOST);
        CHECK.share(clerk, 0, 1, 1, 2);
        CHECK.share(clerk, 0, 2, 1, 2);
        CHECK.same("heirs", clerk.heirs(0), 2);
        CHECK.same("stem", clerk.stem(0, 1), 1);
        CHECK.settledTo("nothing is due to it", clerk, 0, 0, 0, 100);
        CHECK.share(clerk, 0, 1, 1, 2);
    }

    private static void greatestSums() {
        Desk clerk = estateFor(19, MOST);
        for (int child = 1; child <= 18; child++) {
            clerk.gift(child, 0, MOST);
        }
        clerk.settle();
        CHECK.paid(clerk, 0, 18, 0);
        CHECK.paid(clerk, 0, 19, MOST);
        clerk.gift(19, 0, MOST);
        clerk.settle();
        CHECK.paid(clerk, 0, 1, 52632);
        CHECK.paid(clerk, 0, 11, 52632);
        CHECK.paid(clerk, 0, 12, 52631);
        CHECK.paid(clerk, 0, 19, 52631);
        Desk collected = Desk.with(9);
        for (int who = 1; who < 9; who++) {
            collected.amend(who, who - 1, NONE);
        }
        for (int who = 0; who < 9; who++) {
            collected.estate(who, MOST);
            collected.dies(who, who);
        }
        for (int child = 9; child < 20; child++) {
            collected.gift(collected.childOf(8), 8, child == 9 ? 1 : MOST);
        }
        collected.settle();
        CHECK.same("the total", collected.total(8), 9 * MOST);
        // An equal part of 19000001/11, that is 1727272 and 9/11.
        CHECK.paid(collected, 8, 9, 1727272);
        CHECK.paid(collected, 8, 10, 727273);
        CHECK.paid(collected, 8, 17, 727273);
        CHECK.paid(collected, 8, 18, 727272);
    }
}
