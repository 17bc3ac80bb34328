/** Promises 4 (marry), 5 (divorce) and 6 (spouse). */
public final class MarriageTest {
    private static final int NONE = SuccessionClerk.NONE;
    private static final Check CHECK = new Check();

    public static void main(String[] args) {
        married();
        wrongMarriages();
        widowsMarryAgain();
        divorced();
        notDivorced();
        wrongPersons();
        CHECK.end();
    }

    /** "Two persons are each other's spouse from now on."; "NONE when it has none" */
    private static void married() {
        Desk clerk = Desk.with(3);
        clerk.marry(2, 0);
        CHECK.same("spouse of 2", clerk.spouse(2), 0);
        CHECK.same("spouse of 0", clerk.spouse(0), 2);
        CHECK.same("spouse of 1", clerk.spouse(1), NONE);
    }

    private static void wrongMarriages() {
        Desk clerk = Desk.with(5);
        clerk.marry(0, 1);
        clerk.dies(4, 1);
        CHECK.watch(clerk);
        CHECK.refusedArgument("itself", () -> clerk.marry(2, 2));
        CHECK.refusedArgument("itself, married", () -> clerk.marry(0, 0));
        CHECK.refusedArgument("itself, dead", () -> clerk.marry(4, 4));
        CHECK.refusedState("the first is married", () -> clerk.marry(0, 2));
        CHECK.refusedState("the second is married", () -> clerk.marry(2, 1));
        CHECK.refusedState("each other again", () -> clerk.marry(0, 1));
        CHECK.refusedState("the first died", () -> clerk.marry(4, 2));
        CHECK.refusedState("the second died", () -> clerk.marry(2, 4));
        CHECK.refusedArgument("nobody second", () -> clerk.marry(0, 5));
        CHECK.refusedArgument("nobody first", () -> clerk.marry(NONE, 4));
        CHECK.unchanged();
    }

    private static void widowsMarryAgain() {
        Desk clerk = Desk.with(4);
        clerk.marry(0, 1);
        clerk.marry(2, 3);
        clerk.dies(0, 7);
        CHECK.same("a dead spouse", clerk.spouse(1), 0);
        CHECK.watch(clerk);
        CHECK.refusedState("the other one's spouse lives", () -> clerk.marry(1, 2));
        CHECK.unchanged();
        clerk.dies(3, 8);
        clerk.marry(1, 2);
        CHECK.same("married again", clerk.spouse(1), 2);
        CHECK.same("married again too", clerk.spouse(2), 1);
        CHECK.same("the dead one's spouse", clerk.spouse(0), 1);
        CHECK.same("the other dead one's spouse", clerk.spouse(3), 2);
        CHECK.same("the first widow's share", clerk.share(0, 1), Check.fraction(1, 1));
        CHECK.same("the second widow's share", clerk.share(3, 2), Check.fraction(1, 1));
        CHECK.same("divorce of the second marriage", clerk.divorce(2), true);
        CHECK.same("the dead one's spouse after a divorce", clerk.spouse(0), 1);
        CHECK.same("no return to the dead one", clerk.spouse(1), NONE);
    }

    private static void divorced() {
        Desk clerk = Desk.with(3);
        CHECK.same("divorce without a spouse", clerk.divorce(0), false);
        clerk.marry(0, 1);
        CHECK.same("divorce by the second", clerk.divorce(1), true);
        CHECK.same("spouse of 0", clerk.spouse(0), NONE);
        CHECK.same("spouse of 1", clerk.spouse(1), NONE);
        CHECK.same("a second divorce", clerk.divorce(0), false);
        clerk.marry(0, 2);
        CHECK.same("spouse after another marriage", clerk.spouse(2), 0);
        CHECK.same("divorce by the first", clerk.divorce(0), true);
        CHECK.same("spouse of 2", clerk.spouse(2), NONE);
    }

    /** "A person's spouse (who may have died)" */
    private static void notDivorced() {
        Desk clerk = Desk.with(2);
        clerk.marry(0, 1);
        clerk.dies(1, 0);
        CHECK.same("divorce from the dead", clerk.divorce(0), false);
        CHECK.same("divorce of the dead", clerk.divorce(1), false);
        CHECK.same("spouse of the living", clerk.spouse(0), 1);
        CHECK.same("spouse of the dead", clerk.spouse(1), 0);
        clerk.dies(0, 0);
        CHECK.same("divorce when both died", clerk.divorce(0), false);
        CHECK.same("spouse when both died", clerk.spouse(0), 1);
    }

    private static void wrongPersons() {
        Desk clerk = Desk.with(2);
        CHECK.watch(clerk);
        CHECK.refusedArgument("divorce of nobody", () -> clerk.divorce(2));
        CHECK.refusedArgument("divorce of NONE", () -> clerk.divorce(NONE));
        CHECK.refusedArgument("spouse of nobody", () -> clerk.spouse(2));
        CHECK.refusedArgument("spouse of NONE", () -> clerk.spouse(NONE));
        CHECK.unchanged();
    }
}
