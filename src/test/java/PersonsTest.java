/** Promises 1 (a new object), 2 (person) and 3 (amend). */
public final class PersonsTest {
    private static final int NONE = SuccessionClerk.NONE;
    private static final Check CHECK = new Check();

    public static void main(String[] args) {
        newObject();
        numbersRise();
        wrongParents();
        noMoreThanTwenty();
        amended();
        wrongAmendments();
        CHECK.end();
    }

    /** "Nobody is entered, nothing was settled." */
    private static void newObject() {
        Desk clerk = new Desk();
        CHECK.same("NONE", SuccessionClerk.NONE, -1);
        CHECK.same("settle of nobody", clerk.settle(), 0);
        CHECK.same("got by the town", clerk.got(NONE), 0);
        CHECK.watch(clerk);
        CHECK.refusedArgument("new: amend", () -> clerk.amend(0, NONE, NONE));
        CHECK.refusedArgument("new: marry", () -> clerk.marry(0, 1));
        CHECK.refusedArgument("new: divorce", () -> clerk.divorce(0));
        CHECK.refusedArgument("new: spouse", () -> clerk.spouse(0));
        CHECK.refusedArgument("new: dies", () -> clerk.dies(0, 0));
        CHECK.refusedArgument("new: exclude", () -> clerk.exclude(0, 0, true));
        CHECK.refusedArgument("new: gift", () -> clerk.gift(0, 0, 1));
        CHECK.refusedArgument("new: estate", () -> clerk.estate(0, 0));
        CHECK.refusedArgument("new: heirs", () -> clerk.heirs(0));
        CHECK.refusedArgument("new: heir", () -> clerk.heir(0, 0));
        CHECK.refusedArgument("new: share", () -> clerk.share(0, 0));
        CHECK.refusedArgument("new: order", () -> clerk.order(0));
        CHECK.refusedArgument("new: stem", () -> clerk.stem(0, 0));
        CHECK.refusedArgument("new: paid", () -> clerk.paid(0, NONE));
        CHECK.refusedArgument("new: total", () -> clerk.total(0));
        CHECK.refusedArgument("new: got", () -> clerk.got(0));
        CHECK.unchanged();
        Desk other = Desk.with(2);
        other.estate(0, 50);
        other.dies(0, 1);
        other.settle();
        CHECK.same("another object's settlement", clerk.got(NONE), 0);
    }

    private static void numbersRise() {
        Desk clerk = new Desk();
        CHECK.same("first person", clerk.person(NONE, NONE), 0);
        CHECK.same("second person", clerk.person(NONE, 0), 1);
        CHECK.same("third person", clerk.person(1, 0), 2);
        CHECK.same("fourth person", clerk.person(2, NONE), 3);
        CHECK.same("spouse at first", clerk.spouse(3), NONE);
        CHECK.same("gift of a second parent", clerk.gift(1, 0, 1), 1);
        CHECK.same("gift of a first parent", clerk.gift(2, 1, 1), 1);
    }

    private static void wrongParents() {
        Desk clerk = Desk.with(2);
        CHECK.watch(clerk);
        CHECK.refusedArgument("same parents", () -> clerk.person(1, 1));
        CHECK.refusedArgument("its own first parent", () -> clerk.person(2, NONE));
        CHECK.refusedArgument("its own second parent", () -> clerk.person(0, 2));
        CHECK.refusedArgument("first parent -2", () -> clerk.person(-2, 0));
        CHECK.refusedArgument("second parent -2", () -> clerk.person(NONE, -2));
        CHECK.refusedArgument("greatest int", () -> clerk.person(Integer.MAX_VALUE, NONE));
        CHECK.refusedArgument("least int", () -> clerk.person(NONE, Integer.MIN_VALUE));
        CHECK.unchanged();
        CHECK.same("next number", clerk.person(0, 1), 2);
    }

    private static void noMoreThanTwenty() {
        Desk clerk = Desk.with(19);
        CHECK.same("twentieth person", clerk.person(17, 18), 19);
        CHECK.watch(clerk);
        CHECK.refusedState("the 21st", () -> clerk.person(NONE, NONE));
        CHECK.refusedState("the 21st with parents", () -> clerk.person(0, 19));
        CHECK.refusedArgument("the 21st, same parents", () -> clerk.person(3, 3));
        CHECK.refusedArgument("the 21st, no such parent", () -> clerk.person(20, NONE));
        CHECK.unchanged();
    }

    private static void amended() {
        Desk clerk = Desk.with(2);
        clerk.person(0, NONE);
        clerk.dies(0, 5);
        clerk.dies(1, 5);
        CHECK.same("child of the first", clerk.share(0, 2), Check.fraction(1, 1));
        clerk.amend(2, NONE, 1);
        CHECK.same("child no more", clerk.share(0, 2), 0);
        CHECK.same("child of another", clerk.share(1, 2), Check.fraction(1, 1));
        clerk.dies(2, 9);
        clerk.amend(2, 1, 0);
        CHECK.same("a dead one amended", clerk.share(0, 2), Check.fraction(1, 1));
        clerk.amend(2, NONE, NONE);
        CHECK.same("parents unknown", clerk.order(1), 5);
        clerk.amend(0, NONE, NONE);
        CHECK.same("the first person amended", clerk.order(0), 5);
    }

    private static void wrongAmendments() {
        Desk clerk = Desk.with(4);
        clerk.amend(2, 0, 1);
        clerk.dies(0, 3);
        CHECK.watch(clerk);
        CHECK.refusedArgument("no such person", () -> clerk.amend(4, 0, 1));
        CHECK.refusedArgument("amend NONE", () -> clerk.amend(NONE, NONE, NONE));
        CHECK.refusedArgument("the same parents", () -> clerk.amend(2, 1, 1));
        CHECK.refusedArgument("itself first", () -> clerk.amend(2, 2, 1));
        CHECK.refusedArgument("itself second", () -> clerk.amend(2, 1, 2));
        CHECK.refusedArgument("a greater first", () -> clerk.amend(2, 3, NONE));
        CHECK.refusedArgument("a greater second", () -> clerk.amend(2, NONE, 3));
        CHECK.refusedArgument("nobody first", () -> clerk.amend(2, 9, 0));
        CHECK.refusedArgument("nobody second", () -> clerk.amend(2, 0, -2));
        CHECK.unchanged();
        CHECK.same("still a child", clerk.share(0, 2), Check.fraction(1, 1));
        CHECK.same("still a child of both", clerk.gift(2, 1, 7), 7);
    }
}
