/** Promises 7 (dies), 8 (exclude), 9 (gift) and 10 (estate). */
public final class EntriesTest {
    private static final int NONE = SuccessionClerk.NONE;
    private static final Check CHECK = new Check();

    public static void main(String[] args) {
        died();
        wrongDeaths();
        excluded();
        wrongExclusions();
        gifts();
        wrongGifts();
        giftsOutliveAmendments();
        estates();
        wrongEstates();
        CHECK.end();
    }

    private static void died() {
        Desk clerk = Desk.with(1);
        clerk.person(0, NONE);
        clerk.person(0, NONE);
        clerk.person(0, NONE);
        clerk.dies(0, 500);
        clerk.dies(1, 499);
        clerk.dies(2, 500);
        CHECK.same("heirs, one died before, one the same day", clerk.heirs(0), 1);
        clerk.dies(3, 501);
        CHECK.same("who died later is left", clerk.share(0, 3), Check.fraction(1, 1));
        Desk other = Desk.with(2);
        other.dies(0, 0);
        other.dies(1, 999);
        CHECK.same("settled from the first day to the last", other.settle(), 2);
    }

    private static void wrongDeaths() {
        Desk clerk = Desk.with(2);
        clerk.dies(0, 5);
        CHECK.watch(clerk);
        CHECK.refusedState("died already", () -> clerk.dies(0, 6));
        CHECK.refusedState("died already that day", () -> clerk.dies(0, 5));
        CHECK.refusedArgument("died already, day 1000", () -> clerk.dies(0, 1000));
        CHECK.refusedArgument("day 1000", () -> clerk.dies(1, 1000));
        CHECK.refusedArgument("day -1", () -> clerk.dies(1, -1));
        CHECK.refusedArgument("nobody", () -> clerk.dies(2, 5));
        CHECK.refusedArgument("NONE", () -> clerk.dies(NONE, 5));
        CHECK.unchanged();
    }

    private static void excluded() {
        Desk clerk = Desk.with(1);
        clerk.person(0, NONE);
        clerk.person(0, NONE);
        clerk.person(1, NONE);
        clerk.dies(0, 5);
        CHECK.same("not excluded before", clerk.exclude(1, 0, false), false);
        CHECK.same("excluded", clerk.exclude(1, 0, true), true);
        CHECK.same("excluded again", clerk.exclude(1, 0, true), false);
        CHECK.same("the excluded one", clerk.share(0, 1), 0);
        CHECK.same("its child takes its place", clerk.share(0, 3), Check.fraction(1, 2));
        CHECK.same("not excluded from another's estate", clerk.exclude(1, 2, false), false);
        CHECK.same("nor the other way round", clerk.exclude(0, 1, false), false);
        CHECK.same("no longer", clerk.exclude(1, 0, false), true);
        CHECK.same("no longer again", clerk.exclude(1, 0, false), false);
        CHECK.same("the share is back", clerk.share(0, 1), Check.fraction(1, 2));
        CHECK.same("from its own estate", clerk.exclude(0, 0, true), true);
        CHECK.same("of which it is no heir anyway", clerk.heirs(0), 2);
        CHECK.same("the last person's bit", lastExcluded(), true);
    }

    private static boolean lastExcluded() {
        Desk clerk = Desk.with(20);
        clerk.marry(19, 18);
        clerk.dies(19, 5);
        boolean took = clerk.order(19) == 4;
        clerk.exclude(18, 19, true);
        return took && clerk.order(19) == 5;
    }

    private static void wrongExclusions() {
        Desk clerk = Desk.with(2);
        CHECK.watch(clerk);
        CHECK.refusedArgument("nobody excluded", () -> clerk.exclude(2, 0, true));
        CHECK.refusedArgument("NONE excluded", () -> clerk.exclude(NONE, 0, true));
        CHECK.refusedArgument("from nobody", () -> clerk.exclude(0, 2, true));
        CHECK.refusedArgument("from NONE", () -> clerk.exclude(0, NONE, false));
        CHECK.unchanged();
    }

    private static void gifts() {
        Desk clerk = Desk.with(2);
        clerk.person(0, 1);
        CHECK.same("a gift", clerk.gift(2, 0, 1), 1);
        CHECK.same("a further one", clerk.gift(2, 0, 41), 42);
        CHECK.same("from the other parent", clerk.gift(2, 1, 1000000), 1000000);
        CHECK.same("the greatest sum", clerk.gift(2, 0, 999958), 1000000);
        clerk.person(0, NONE);
        clerk.dies(0, 1);
        clerk.dies(3, 1);
        CHECK.same("between the dead", clerk.gift(3, 0, 9), 9);
    }

    private static void wrongGifts() {
        Desk clerk = Desk.with(2);
        clerk.person(0, NONE);
        clerk.person(2, NONE);
        clerk.gift(2, 0, 500000);
        CHECK.watch(clerk);
        CHECK.refusedState("one cent too many", () -> clerk.gift(2, 0, 500001));
        CHECK.refusedState("far too many", () -> clerk.gift(2, 0, 1000000));
        CHECK.refusedArgument("a gift of 0", () -> clerk.gift(2, 0, 0));
        CHECK.refusedArgument("a gift of -1", () -> clerk.gift(2, 0, -1));
        CHECK.refusedArgument("a gift of 1000001", () -> clerk.gift(2, 0, 1000001));
        CHECK.refusedArgument("the greatest int", () -> clerk.gift(2, 0, Integer.MAX_VALUE));
        CHECK.refusedArgument("no parent", () -> clerk.gift(2, 1, 5));
        CHECK.refusedArgument("a grandparent", () -> clerk.gift(3, 0, 5));
        CHECK.refusedArgument("the other way round", () -> clerk.gift(0, 2, 5));
        CHECK.refusedArgument("to itself", () -> clerk.gift(2, 2, 5));
        CHECK.refusedArgument("to nobody", () -> clerk.gift(4, 0, 5));
        CHECK.refusedArgument("from nobody", () -> clerk.gift(2, 4, 5));
        CHECK.refusedArgument("from NONE, an unknown parent", () -> clerk.gift(2, NONE, 5));
        CHECK.unchanged();
        CHECK.same("nothing was added", clerk.gift(2, 0, 500000), 1000000);
    }

    private static void giftsOutliveAmendments() {
        Desk clerk = Desk.with(2);
        clerk.person(0, NONE);
        clerk.person(0, NONE);
        clerk.estate(0, 100);
        clerk.dies(0, 5);
        clerk.gift(2, 0, 60);
        clerk.amend(2, 1, NONE);
        CHECK.watch(clerk);
        CHECK.refusedArgument("no parent any more", () -> clerk.gift(2, 0, 1));
        CHECK.unchanged();
        clerk.settle();
        CHECK.same("the gift does not count", clerk.paid(0, 3), 100);
        clerk.amend(2, NONE, 0);
        clerk.settle();
        CHECK.same("the gift counts again", clerk.paid(0, 3), 80);
        CHECK.same("and was recorded", clerk.gift(2, 0, 1), 61);
    }

    private static void estates() {
        Desk clerk = Desk.with(2);
        clerk.dies(0, 5);
        clerk.settle();
        CHECK.same("an estate at first", clerk.total(0), 0);
        clerk.estate(0, 1000000);
        clerk.settle();
        CHECK.same("the greatest estate", clerk.total(0), 1000000);
        clerk.estate(0, 3);
        CHECK.same("it was settled before", clerk.total(0), 1000000);
        clerk.settle();
        CHECK.same("it becomes another", clerk.total(0), 3);
        clerk.estate(0, 0);
        clerk.settle();
        CHECK.same("it becomes nothing", clerk.total(0), 0);
    }

    private static void wrongEstates() {
        Desk clerk = Desk.with(2);
        clerk.estate(0, 8);
        CHECK.watch(clerk);
        CHECK.refusedArgument("-1 cents", () -> clerk.estate(0, -1));
        CHECK.refusedArgument("1000001 cents", () -> clerk.estate(0, 1000001));
        CHECK.refusedArgument("nobody's", () -> clerk.estate(2, 1));
        CHECK.refusedArgument("NONE's", () -> clerk.estate(NONE, 1));
        CHECK.unchanged();
        clerk.dies(0, 1);
        clerk.settle();
        CHECK.same("nothing changed", clerk.total(0), 8);
    }
}
