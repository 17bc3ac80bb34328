/** "Terms": how rests are paid; a test quotes the sentence that it holds. */
public final class RestsTest {
    private static final int NONE = SuccessionClerk.NONE;
    private static final int MOST = 1000000;
    private static final Check CHECK = new Check();

    public static void main(String[] args) {
        nothingIsPaid();
        fromNoRestsToAllButOne();
        mostHeirs();
        greatestRestsFirst();
        greatestRestsOfGreaterNumbers();
        equalRestsByLesserNumbers();
        equalRestsOfUnequalDues();
        nearlyEqualRests();
        oneCentMoreAtMost();
        roundedOnceForAllWays();
        allIsPaid();
        greatTotals();
        greatTotalsOfLines();
        CHECK.end();
    }

    private static Desk estateFor(int children, int cents) {
        Desk clerk = Desk.parentOf(children);
        clerk.estate(0, cents);
        clerk.dies(0, 5);
        return clerk;
    }

    private static void nothingIsPaid() {
        CHECK.settledTo("a total of 0", estateFor(3, 0), 0, 0, 0, 0, 0);
        Desk clerk = Desk.with(2);
        clerk.marry(0, 1);
        clerk.dies(0, 5);
        CHECK.settledTo("a total of 0 for the spouse", clerk, 0, 0, 0);
        clerk.exclude(1, 0, true);
        CHECK.settledTo("a total of 0 for the town", clerk, 0, 0, 0);
        CHECK.paid(clerk, 0, NONE, 0);
    }

    /** "each rounded down, and one cent more to as many as it takes to pay the total" */
    private static void fromNoRestsToAllButOne() {
        Desk clerk = estateFor(4, 0);
        long[][] due = {{0, 0, 0, 0}, {1, 0, 0, 0}, {1, 1, 0, 0}, {1, 1, 1, 0}, {1, 1, 1, 1}, {2, 1, 1, 1}};
        for (int cents = 0; cents < due.length; cents++) {
            clerk.estate(0, cents);
            long[] row = due[cents];
            CHECK.settledTo(cents + " cents", clerk, 0, 0, row[0], row[1], row[2], row[3]);
        }
        clerk.estate(0, MOST - 1);
        CHECK.settledTo("999999 cents", clerk, 0, 0, 250000, 250000, 250000, 249999);
        clerk.estate(0, MOST);
        CHECK.settledTo("1000000 cents", clerk, 0, 0, 250000, 250000, 250000, 250000);
    }

    private static void mostHeirs() {
        for (int cents : new int[] {1, 18, 19, 20, 37, 38}) {
            Desk clerk = estateFor(19, cents);
            clerk.settle();
            for (int who = 1; who <= 19; who++) {
                CHECK.paid(clerk, 0, who, cents / 19 + (who <= cents % 19 ? 1 : 0));
            }
        }
    }

    /** "those with the greatest rests first": here of the lesser numbers, 1/2 and four times 1/8. */
    private static void greatestRestsFirst() {
        Desk clerk = estateFor(2, 5);
        for (int i = 0; i < 4; i++) {
            clerk.childOf(2);
        }
        clerk.dies(2, 5);
        CHECK.settledTo("rests of 4/8, and 5/8 each", clerk, 0, 0, 2, 0, 1, 1, 1, 0);
        clerk.estate(0, 3);
        CHECK.settledTo("rests of 4/8, and 3/8 each", clerk, 0, 0, 2, 0, 1, 0, 0, 0);
        clerk.estate(0, 7);
        CHECK.settledTo("rests of 4/8, and 7/8 each", clerk, 0, 0, 3, 0, 1, 1, 1, 1);
        clerk.estate(0, 9);
        CHECK.settledTo("rests of 4/8, and 1/8 each", clerk, 0, 0, 5, 0, 1, 1, 1, 1);
    }

    /** The same with the half for the greatest number. */
    private static void greatestRestsOfGreaterNumbers() {
        Desk clerk = Desk.parentOf(1);
        for (int i = 0; i < 4; i++) {
            clerk.childOf(1);
        }
        clerk.childOf(0);
        clerk.dies(0, 5);
        clerk.dies(1, 5);
        clerk.estate(0, 5);
        CHECK.settledTo("rests of 5/8 each, and 4/8", clerk, 0, 0, 0, 1, 1, 1, 0, 2);
        clerk.estate(0, 3);
        CHECK.settledTo("rests of 3/8 each, and 4/8", clerk, 0, 0, 0, 1, 0, 0, 0, 2);
        clerk.estate(0, 1);
        CHECK.settledTo("rests of 1/8 each, and 4/8", clerk, 0, 0, 0, 0, 0, 0, 0, 1);
        clerk.estate(0, 11);
        CHECK.settledTo("rests of 3/8 each, and 4/8, behind whole cents", clerk, 0, 0, 0, 2, 1, 1, 1, 6);
    }

    /** "of equal rests those with lesser numbers" */
    private static void equalRestsByLesserNumbers() {
        Desk spouseFirst = Desk.with(2);
        spouseFirst.childOf(1);
        spouseFirst.marry(2, 0);
        spouseFirst.estate(2, 1);
        spouseFirst.dies(2, 5);
        CHECK.settledTo("the spouse has the lesser number", spouseFirst, 2, 1, 0);
        Desk parentFirst = Desk.with(2);
        parentFirst.childOf(0);
        parentFirst.marry(2, 1);
        parentFirst.estate(2, 1);
        parentFirst.dies(2, 5);
        CHECK.settledTo("the parent has the lesser number", parentFirst, 2, 1, 0);
        Desk parents = Desk.with(2);
        parents.person(1, 0);
        parents.estate(2, 1);
        parents.dies(2, 5);
        CHECK.settledTo("the second parent has the lesser number", parents, 2, 1, 0);
        Desk last = estateFor(19, 1);
        for (int who = 1; who < 18; who++) {
            last.exclude(who, 0, true);
        }
        last.settle();
        CHECK.paid(last, 0, 18, 1);
        CHECK.paid(last, 0, 19, 0);
    }

    /** The spouse's 2/4 and the child's 6/4 have the same rest, and the number alone decides. */
    private static void equalRestsOfUnequalDues() {
        Desk spouseFirst = Desk.with(2);
        spouseFirst.childOf(1);
        spouseFirst.marry(0, 1);
        spouseFirst.estate(1, 2);
        spouseFirst.dies(1, 5);
        CHECK.settledTo("the spouse has the lesser number", spouseFirst, 1, 1, 0, 1);
        Desk childFirst = Desk.with(1);
        childFirst.childOf(0);
        childFirst.person(NONE, NONE);
        childFirst.marry(0, 2);
        childFirst.estate(0, 2);
        childFirst.dies(0, 5);
        CHECK.settledTo("the child has the lesser number", childFirst, 0, 0, 2, 0);
        childFirst.estate(0, 1);
        CHECK.settledTo("1/4 and 3/4", childFirst, 0, 0, 1, 0);
        childFirst.estate(0, 3);
        CHECK.settledTo("3/4 and 9/4", childFirst, 0, 0, 2, 1);
        childFirst.estate(0, 6);
        CHECK.settledTo("6/4 and 18/4", childFirst, 0, 0, 5, 1);
    }

    /** Rests that differ by a 262144th: a chain where each one has the next two as children. */
    private static void nearlyEqualRests() {
        Desk clerk = Desk.with(2);
        clerk.marry(0, 1);
        clerk.person(0, NONE);
        clerk.person(0, 2);
        for (int who = 4; who < 20; who++) {
            clerk.person(who - 2, who - 1);
        }
        for (int who = 0; who < 18; who++) {
            if (who != 1) {
                clerk.dies(who, 5);
            }
        }
        CHECK.share(clerk, 0, 18, 262143, 524288);
        CHECK.share(clerk, 0, 19, 131073, 524288);
        clerk.estate(0, 2);
        clerk.settle();
        CHECK.paid(clerk, 0, 1, 0);
        CHECK.paid(clerk, 0, 18, 1);
        CHECK.paid(clerk, 0, 19, 1);
        clerk.estate(0, MOST);
        clerk.settle();
        // 250000, and rests of 48640/524288 and 475648/524288.
        CHECK.paid(clerk, 0, 1, 250000);
        CHECK.paid(clerk, 0, 18, 499998);
        CHECK.paid(clerk, 0, 19, 250002);
    }

    private static void oneCentMoreAtMost() {
        Desk clerk = estateFor(3, 2);
        CHECK.settledTo("rests of 2/3 each", clerk, 0, 0, 1, 1, 0);
        Desk spouse = Desk.with(2);
        for (int i = 0; i < 3; i++) {
            spouse.childOf(0);
        }
        spouse.marry(0, 1);
        spouse.dies(0, 5);
        long[][] due = {{0, 0, 0, 0}, {1, 0, 0, 0}, {1, 1, 0, 0}, {1, 1, 1, 0}, {1, 1, 1, 1}};
        for (int cents = 0; cents < due.length; cents++) {
            spouse.estate(0, cents);
            long[] row = due[cents];
            CHECK.settledTo(cents + " quarters each", spouse, 0, 0, row[0], row[1], row[2], row[3]);
        }
    }

    /** A due is what one takes in all ways together: it is not rounded for each way. */
    private static void roundedOnceForAllWays() {
        Desk clerk = Desk.parentOf(2);
        clerk.marry(0, 1);
        clerk.dies(0, 5);
        clerk.estate(0, 2);
        CHECK.settledTo("10/8 and 6/8", clerk, 0, 0, 1, 1);
        clerk.estate(0, 3);
        CHECK.settledTo("15/8 and 9/8", clerk, 0, 0, 2, 1);
        clerk.estate(0, 1);
        CHECK.settledTo("5/8 and 3/8", clerk, 0, 0, 1, 0);
        Desk stems = Desk.parentOf(2);
        stems.person(1, 2);
        stems.childOf(1);
        stems.childOf(2);
        stems.dies(0, 5);
        stems.dies(1, 5);
        stems.dies(2, 5);
        stems.estate(0, 3);
        CHECK.settledTo("6/4, 3/4 and 3/4", stems, 0, 0, 0, 0, 1, 1, 1);
        stems.estate(0, 1);
        CHECK.settledTo("2/4, 1/4 and 1/4", stems, 0, 0, 0, 0, 1, 0, 0);
    }

    private static void allIsPaid() {
        Desk clerk = Desk.with(2);
        for (int i = 0; i < 6; i++) {
            clerk.childOf(0);
        }
        clerk.childOf(2);
        clerk.childOf(2);
        clerk.childOf(2);
        clerk.marry(0, 1);
        clerk.dies(2, 1);
        clerk.dies(0, 5);
        for (int cents = 0; cents < 24; cents++) {
            clerk.estate(0, cents);
            clerk.settle();
            long sum = 0;
            for (int who = 0; who < 11; who++) {
                sum += clerk.paid(0, who);
            }
            CHECK.same("all is paid", sum, cents);
        }
    }

    /** What 16 others leave to one who died last, and the rests of that. */
    private static void greatTotals() {
        Desk clerk = Desk.with(1);
        for (int who = 1; who < 17; who++) {
            clerk.childOf(who - 1);
        }
        for (int who = 0; who < 17; who++) {
            clerk.estate(who, MOST);
            clerk.dies(who, 10 * who);
        }
        for (int i = 0; i < 3; i++) {
            clerk.childOf(16);
        }
        CHECK.same("settle", clerk.settle(), 17);
        CHECK.same("the total", clerk.total(16), 17 * MOST);
        CHECK.paid(clerk, 16, 17, 5666667);
        CHECK.paid(clerk, 16, 18, 5666667);
        CHECK.paid(clerk, 16, 19, 5666666);
    }

    /** Half and half to the same 17 siblings, and half each to 7 and to 8 children of grandparents. */
    private static void greatTotalsOfLines() {
        Desk clerk = Desk.with(2);
        for (int who = 2; who < 20; who++) {
            clerk.person(0, 1);
        }
        for (int who = 0; who <= 2; who++) {
            clerk.dies(who, 5);
        }
        clerk.estate(2, MOST);
        clerk.settle();
        CHECK.paid(clerk, 2, 3, 58824);
        CHECK.paid(clerk, 2, 11, 58824);
        CHECK.paid(clerk, 2, 12, 58823);
        CHECK.paid(clerk, 2, 19, 58823);
        Desk uncles = Desk.with(2);
        uncles.childOf(0);
        uncles.childOf(1);
        uncles.person(2, 3);
        for (int who = 0; who <= 4; who++) {
            uncles.dies(who, 5);
        }
        for (int who = 5; who < 20; who++) {
            uncles.childOf(who < 12 ? 0 : 1);
        }
        uncles.estate(4, MOST - 1);
        uncles.settle();
        // 999999/14 is 71428 and 7/14; 999999/16 is 62499 and 15/16.
        CHECK.paid(uncles, 4, 5, 71429);
        CHECK.paid(uncles, 4, 7, 71429);
        CHECK.paid(uncles, 4, 8, 71428);
        CHECK.paid(uncles, 4, 11, 71428);
        CHECK.paid(uncles, 4, 12, 62500);
        CHECK.paid(uncles, 4, 19, 62500);
    }
}
