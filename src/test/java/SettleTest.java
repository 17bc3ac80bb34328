/** Promises 16 (settle), 17 (paid), 18 (total) and 19 (got). */
public final class SettleTest {
    private static final int NONE = SuccessionClerk.NONE;
    private static final Check CHECK = new Check();

    public static void main(String[] args) {
        nothingSettled();
        roundedToTheCent();
        greatestRestsFirst();
        restsOfTheSpouse();
        successiveDeaths();
        deathsOfOneDay();
        townIsPaid();
        settledAnew();
        giftsBroughtIn();
        giftsAboveAnEqualPart();
        giftsOfTheGone();
        giftsThatDoNotCount();
        giftsAndNothingLeft();
        greatTotals();
        wrongPersons();
        CHECK.end();
    }

    /** One parent, number 0, with so many children and an estate, who died on day 5. */
    private static Desk parentOf(int children, int cents) {
        Desk clerk = Desk.with(1);
        for (int i = 0; i < children; i++) {
            clerk.person(0, NONE);
        }
        clerk.estate(0, cents);
        clerk.dies(0, 5);
        return clerk;
    }

    private static void nothingSettled() {
        Desk clerk = parentOf(1, 100);
        CHECK.paid(clerk, 0, 1, 0);
        CHECK.paid(clerk, 0, NONE, 0);
        CHECK.same("total before", clerk.total(0), 0);
        CHECK.same("got before", clerk.got(1), 0);
        CHECK.same("got by the town before", clerk.got(NONE), 0);
        CHECK.same("settle", clerk.settle(), 1);
        CHECK.paid(clerk, 0, 1, 100);
        CHECK.same("total", clerk.total(0), 100);
        CHECK.same("total of the living", clerk.total(1), 0);
        int late = clerk.person(0, NONE);
        CHECK.paid(clerk, 0, late, 0);
        CHECK.paid(clerk, late, 0, 0);
        CHECK.same("total of a late one", clerk.total(late), 0);
        CHECK.same("got by a late one", clerk.got(late), 0);
    }

    private static void roundedToTheCent() {
        Desk clerk = parentOf(3, 11);
        clerk.settle();
        CHECK.paid(clerk, 0, 1, 4);
        CHECK.paid(clerk, 0, 2, 4);
        CHECK.paid(clerk, 0, 3, 3);
        clerk.estate(0, 1);
        clerk.settle();
        CHECK.paid(clerk, 0, 1, 1);
        CHECK.paid(clerk, 0, 2, 0);
        clerk.estate(0, 9);
        clerk.settle();
        CHECK.paid(clerk, 0, 3, 3);
    }

    /** Shares of a half, and six times a twelfth: the rests of 17 cents are 6/12, and 5/12 each. */
    private static void greatestRestsFirst() {
        Desk clerk = Desk.with(1);
        clerk.person(0, NONE);
        clerk.person(0, NONE);
        for (int i = 0; i < 6; i++) {
            clerk.person(1, NONE);
        }
        clerk.dies(1, 1);
        clerk.dies(0, 5);
        clerk.estate(0, 17);
        clerk.settle();
        CHECK.paid(clerk, 0, 2, 9);
        CHECK.paid(clerk, 0, 3, 2);
        CHECK.paid(clerk, 0, 4, 2);
        CHECK.paid(clerk, 0, 5, 1);
        CHECK.paid(clerk, 0, 8, 1);
        clerk.estate(0, 11);
        clerk.settle();
        // The rests of 11 cents are 6/12 and 11/12 each: the half's is the least now.
        CHECK.paid(clerk, 0, 2, 5);
        CHECK.paid(clerk, 0, 3, 1);
        CHECK.paid(clerk, 0, 8, 1);
    }

    private static void restsOfTheSpouse() {
        Desk clerk = Desk.with(2);
        clerk.person(1, NONE);
        clerk.marry(0, 1);
        clerk.estate(1, 2);
        clerk.dies(1, 5);
        clerk.settle();
        // Dues of 2/4 and 6/4: equal rests, and the spouse has the lesser number.
        CHECK.paid(clerk, 1, 0, 1);
        CHECK.paid(clerk, 1, 2, 1);
        clerk.estate(1, 3);
        clerk.settle();
        // Dues of 3/4 and 9/4.
        CHECK.paid(clerk, 1, 0, 1);
        CHECK.paid(clerk, 1, 2, 2);
        clerk.estate(1, 1);
        clerk.settle();
        CHECK.paid(clerk, 1, 0, 0);
        CHECK.paid(clerk, 1, 2, 1);
    }

    private static void successiveDeaths() {
        Desk clerk = Desk.with(1);
        clerk.person(0, NONE);
        clerk.person(1, NONE);
        clerk.person(2, NONE);
        clerk.estate(0, 100);
        clerk.estate(1, 20);
        clerk.estate(2, 3);
        clerk.dies(2, 30);
        clerk.dies(1, 20);
        clerk.dies(0, 10);
        CHECK.same("settle", clerk.settle(), 3);
        CHECK.same("total of the first", clerk.total(0), 100);
        CHECK.same("total of the second", clerk.total(1), 120);
        CHECK.same("total of the third", clerk.total(2), 123);
        CHECK.same("got by the second", clerk.got(1), 100);
        CHECK.same("got by the last", clerk.got(3), 123);
        CHECK.paid(clerk, 0, 3, 0);
        CHECK.paid(clerk, 2, 3, 123);
        Desk upward = Desk.with(1);
        upward.person(0, NONE);
        upward.person(0, NONE);
        upward.estate(1, 40);
        upward.dies(1, 1);
        upward.dies(0, 2);
        upward.settle();
        CHECK.same("a parent who inherits and dies", upward.total(0), 40);
        CHECK.paid(upward, 0, 2, 40);
        CHECK.same("got from the parent", upward.got(2), 40);
    }

    private static void deathsOfOneDay() {
        Desk clerk = Desk.with(2);
        clerk.marry(0, 1);
        clerk.person(0, 1);
        clerk.estate(0, 10);
        clerk.estate(1, 7);
        clerk.dies(0, 4);
        clerk.dies(1, 4);
        CHECK.same("settle", clerk.settle(), 2);
        CHECK.same("total of the one", clerk.total(0), 10);
        CHECK.same("total of the other", clerk.total(1), 7);
        CHECK.same("got from both", clerk.got(2), 17);
        CHECK.paid(clerk, 0, 1, 0);
        CHECK.paid(clerk, 1, 0, 0);
    }

    private static void townIsPaid() {
        Desk clerk = Desk.with(3);
        clerk.estate(0, 10);
        clerk.estate(1, 5);
        clerk.dies(0, 4);
        clerk.dies(1, 3);
        CHECK.same("settle", clerk.settle(), 2);
        CHECK.paid(clerk, 0, NONE, 10);
        CHECK.paid(clerk, 1, NONE, 5);
        CHECK.paid(clerk, 2, NONE, 0);
        CHECK.same("got by the town", clerk.got(NONE), 15);
        CHECK.same("got by nobody else", clerk.got(2), 0);
        Desk full = Desk.with(20);
        full.estate(19, 3);
        full.dies(19, 1);
        full.settle();
        CHECK.paid(full, 19, NONE, 3);
        CHECK.paid(full, 19, 18, 0);
    }

    private static void settledAnew() {
        Desk clerk = parentOf(2, 100);
        clerk.settle();
        clerk.settle();
        CHECK.paid(clerk, 0, 1, 50);
        CHECK.same("got once", clerk.got(1), 50);
        clerk.exclude(1, 0, true);
        CHECK.paid(clerk, 0, 1, 50);
        clerk.dies(2, 6);
        CHECK.same("not among those settled last", clerk.total(2), 0);
        CHECK.same("settle anew", clerk.settle(), 2);
        CHECK.paid(clerk, 0, 1, 0);
        CHECK.paid(clerk, 0, 2, 100);
        CHECK.paid(clerk, 2, 1, 100);
        CHECK.same("total of the later dead", clerk.total(2), 100);
        clerk.exclude(1, 2, true);
        clerk.settle();
        CHECK.same("the town after all", clerk.got(NONE), 100);
        clerk.exclude(1, 2, false);
        clerk.settle();
        CHECK.same("the town no more", clerk.got(NONE), 0);
        CHECK.paid(clerk, 2, NONE, 0);
    }

    private static void giftsBroughtIn() {
        Desk clerk = parentOf(3, 100);
        clerk.gift(1, 0, 20);
        clerk.gift(2, 0, 30);
        clerk.settle();
        CHECK.paid(clerk, 0, 1, 30);
        CHECK.paid(clerk, 0, 2, 20);
        CHECK.paid(clerk, 0, 3, 50);
        CHECK.same("shares are without gifts", clerk.share(0, 1), Check.fraction(1, 3));
        clerk.gift(2, 0, 20);
        clerk.settle();
        // An equal part of 170/3: dues of 110/3, 20/3 and 170/3.
        CHECK.paid(clerk, 0, 1, 37);
        CHECK.paid(clerk, 0, 2, 7);
        CHECK.paid(clerk, 0, 3, 56);
        Desk other = Desk.with(2);
        other.marry(0, 1);
        other.person(0, 1);
        other.person(0, NONE);
        other.gift(2, 0, 25);
        other.estate(0, 100);
        other.dies(0, 5);
        other.settle();
        CHECK.paid(other, 0, 1, 25);
        CHECK.paid(other, 0, 2, 25);
        CHECK.paid(other, 0, 3, 50);
    }

    private static void giftsAboveAnEqualPart() {
        Desk clerk = parentOf(3, 60);
        clerk.gift(1, 0, 30);
        clerk.settle();
        // Just an equal part.
        CHECK.paid(clerk, 0, 1, 0);
        CHECK.paid(clerk, 0, 2, 30);
        clerk.gift(1, 0, 1000);
        clerk.settle();
        CHECK.paid(clerk, 0, 1, 0);
        CHECK.paid(clerk, 0, 2, 30);
        CHECK.paid(clerk, 0, 3, 30);
        CHECK.same("still an heir", clerk.heirs(0), 3);
        CHECK.same("still with a share", clerk.share(0, 1), Check.fraction(1, 3));
        clerk.gift(2, 0, 100);
        clerk.settle();
        // The second is below an equal part until the first is in no more.
        CHECK.paid(clerk, 0, 1, 0);
        CHECK.paid(clerk, 0, 2, 0);
        CHECK.paid(clerk, 0, 3, 60);
        Desk reversed = parentOf(3, 60);
        reversed.gift(3, 0, 1030);
        reversed.gift(2, 0, 100);
        reversed.settle();
        CHECK.paid(reversed, 0, 1, 60);
        CHECK.paid(reversed, 0, 2, 0);
    }

    private static void giftsOfTheGone() {
        Desk clerk = parentOf(3, 90);
        clerk.person(1, NONE);
        clerk.person(1, NONE);
        clerk.dies(1, 2);
        clerk.dies(3, 2);
        clerk.gift(1, 0, 10);
        clerk.gift(3, 0, 1000);
        clerk.gift(4, 1, 500);
        clerk.settle();
        // The third stem has no heirs: its gifts do not count; nor do those of the dead child.
        CHECK.paid(clerk, 0, 2, 50);
        CHECK.paid(clerk, 0, 4, 20);
        CHECK.paid(clerk, 0, 5, 20);
        clerk.gift(1, 0, 100);
        clerk.settle();
        CHECK.paid(clerk, 0, 2, 90);
        CHECK.paid(clerk, 0, 4, 0);
        CHECK.same("got by none of that stem", clerk.got(5), 0);
    }

    private static void giftsThatDoNotCount() {
        Desk clerk = Desk.with(2);
        clerk.person(0, 1);
        clerk.person(0, 1);
        clerk.estate(0, 50);
        clerk.gift(2, 1, 50);
        clerk.dies(0, 1);
        clerk.settle();
        CHECK.paid(clerk, 0, 2, 25);
        Desk siblings = Desk.with(1);
        siblings.person(0, NONE);
        siblings.person(0, NONE);
        siblings.person(0, NONE);
        siblings.gift(2, 0, 50);
        siblings.estate(1, 50);
        siblings.dies(0, 1);
        siblings.dies(1, 2);
        siblings.settle();
        // Not in the order 1.
        CHECK.paid(siblings, 1, 2, 25);
        CHECK.paid(siblings, 1, 3, 25);
    }

    private static void giftsAndNothingLeft() {
        Desk clerk = parentOf(2, 0);
        clerk.gift(1, 0, 9);
        CHECK.same("settle", clerk.settle(), 1);
        CHECK.paid(clerk, 0, 1, 0);
        CHECK.paid(clerk, 0, 2, 0);
        clerk.gift(2, 0, 9);
        clerk.settle();
        CHECK.paid(clerk, 0, 1, 0);
        CHECK.paid(clerk, 0, 2, 0);
        CHECK.same("total", clerk.total(0), 0);
    }

    private static void greatTotals() {
        Desk clerk = Desk.with(1);
        clerk.estate(0, 1000000);
        for (int who = 1; who < 20; who++) {
            clerk.person(who - 1, NONE);
            clerk.estate(who, 1000000);
            clerk.gift(who, who - 1, 1000000);
        }
        for (int who = 0; who < 20; who++) {
            clerk.dies(who, 50 * who);
        }
        CHECK.same("settle", clerk.settle(), 20);
        CHECK.same("the last total", clerk.total(19), 20000000);
        CHECK.same("the town", clerk.got(NONE), 20000000);
    }

    private static void wrongPersons() {
        Desk clerk = parentOf(1, 100);
        clerk.settle();
        CHECK.watch(clerk);
        CHECK.refusedArgument("paid of nobody", () -> clerk.paid(2, 0));
        CHECK.refusedArgument("paid of NONE", () -> clerk.paid(NONE, 0));
        CHECK.refusedArgument("paid to nobody", () -> clerk.paid(0, 2));
        CHECK.refusedArgument("paid to the town's place", () -> clerk.paid(0, 20));
        CHECK.refusedArgument("paid to -2", () -> clerk.paid(0, -2));
        CHECK.refusedArgument("total of nobody", () -> clerk.total(2));
        CHECK.refusedArgument("total of NONE", () -> clerk.total(NONE));
        CHECK.refusedArgument("got by nobody", () -> clerk.got(2));
        CHECK.refusedArgument("got by the town's place", () -> clerk.got(20));
        CHECK.refusedArgument("got by -2", () -> clerk.got(-2));
        CHECK.unchanged();
    }
}
