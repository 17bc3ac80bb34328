/** Promises 1 (a new object), 2 (person) and 3 (amend). */
public final class PersonsTest {
    private static final int NONE = SuccessionClerk.NONE;
    private static final Check CHECK = new Check();

    public static void main(String[] args) {
        newObject();
        numbersRise();
        wrongParents();
        noMoreThanTwenty();
        amended();
        wrongAmendments();
        CHECK.end();
    }

    private static void newObject() {
        SuccessionClerk clerk = new SuccessionClerk();
        CHECK.same("NONE", SuccessionClerk.NONE, -1);
        CHECK.same("settle of nobody", clerk.settle(), 0);
        CHECK.same("got by the town", clerk.got(NONE), 0);
        CHECK.refusedArgument(clerk, 0, "new: amend", () -> clerk.amend(0, NONE, NONE));
        CHECK.refusedArgument(clerk, 0, "new: marry", () -> clerk.marry(0, 1));
        CHECK.refusedArgument(clerk, 0, "new: divorce", () -> clerk.divorce(0));
        CHECK.refusedArgument(clerk, 0, "new: spouse", () -> clerk.spouse(0));
        CHECK.refusedArgument(clerk, 0, "new: dies", () -> clerk.dies(0, 0));
        CHECK.refusedArgument(clerk, 0, "new: exclude", () -> clerk.exclude(0, 0, true));
        CHECK.refusedArgument(clerk, 0, "new: gift", () -> clerk.gift(0, 0, 1));
        CHECK.refusedArgument(clerk, 0, "new: estate", () -> clerk.estate(0, 0));
        CHECK.refusedArgument(clerk, 0, "new: heirs", () -> clerk.heirs(0));
        CHECK.refusedArgument(clerk, 0, "new: heir", () -> clerk.heir(0, 0));
        CHECK.refusedArgument(clerk, 0, "new: share", () -> clerk.share(0, 0));
        CHECK.refusedArgument(clerk, 0, "new: order", () -> clerk.order(0));
        CHECK.refusedArgument(clerk, 0, "new: stem", () -> clerk.stem(0, 0));
        CHECK.refusedArgument(clerk, 0, "new: paid", () -> clerk.paid(0, NONE));
        CHECK.refusedArgument(clerk, 0, "new: total", () -> clerk.total(0));
        CHECK.refusedArgument(clerk, 0, "new: got", () -> clerk.got(0));
        SuccessionClerk other = Check.clerkWith(2);
        other.estate(0, 50);
        other.dies(0, 1);
        other.settle();
        CHECK.same("another object's settlement", clerk.got(NONE), 0);
    }

    private static void numbersRise() {
        SuccessionClerk clerk = new SuccessionClerk();
        CHECK.same("first person", clerk.person(NONE, NONE), 0);
        CHECK.same("second person", clerk.person(NONE, 0), 1);
        CHECK.same("third person", clerk.person(1, 0), 2);
        CHECK.same("fourth person", clerk.person(2, NONE), 3);
        CHECK.same("spouse at first", clerk.spouse(3), NONE);
        CHECK.same("gift of a second parent", clerk.gift(1, 0, 1), 1);
        CHECK.same("gift of a first parent", clerk.gift(2, 1, 1), 1);
    }

    private static void wrongParents() {
        SuccessionClerk clerk = Check.clerkWith(2);
        CHECK.refusedArgument(clerk, 2, "same parents", () -> clerk.person(1, 1));
        CHECK.refusedArgument(clerk, 2, "its own first parent", () -> clerk.person(2, NONE));
        CHECK.refusedArgument(clerk, 2, "its own second parent", () -> clerk.person(0, 2));
        CHECK.refusedArgument(clerk, 2, "first parent -2", () -> clerk.person(-2, 0));
        CHECK.refusedArgument(clerk, 2, "second parent -2", () -> clerk.person(NONE, -2));
        CHECK.refusedArgument(clerk, 2, "greatest int", () -> clerk.person(Integer.MAX_VALUE, NONE));
        CHECK.refusedArgument(clerk, 2, "least int", () -> clerk.person(NONE, Integer.MIN_VALUE));
        CHECK.same("next number", clerk.person(0, 1), 2);
    }

    private static void noMoreThanTwenty() {
        SuccessionClerk clerk = Check.clerkWith(19);
        CHECK.same("twentieth person", clerk.person(17, 18), 19);
        CHECK.refusedState(clerk, 20, "the 21st", () -> clerk.person(NONE, NONE));
        CHECK.refusedState(clerk, 20, "the 21st with parents", () -> clerk.person(0, 19));
        CHECK.refusedArgument(clerk, 20, "the 21st, same parents", () -> clerk.person(3, 3));
        CHECK.refusedArgument(clerk, 20, "the 21st, no such parent", () -> clerk.person(20, NONE));
    }

    private static void amended() {
        SuccessionClerk clerk = Check.clerkWith(2);
        clerk.person(0, NONE);
        clerk.dies(0, 5);
        clerk.dies(1, 5);
        CHECK.same("child of the first", clerk.share(0, 2), Check.fraction(1, 1));
        clerk.amend(2, NONE, 1);
        CHECK.same("child no more", clerk.share(0, 2), 0);
        CHECK.same("child of another", clerk.share(1, 2), Check.fraction(1, 1));
        clerk.dies(2, 9);
        clerk.amend(2, 1, 0);
        CHECK.same("a dead one amended", clerk.share(0, 2), Check.fraction(1, 1));
        clerk.amend(2, NONE, NONE);
        CHECK.same("parents unknown", clerk.order(1), 5);
        clerk.amend(0, NONE, NONE);
        CHECK.same("the first person amended", clerk.order(0), 5);
    }

    private static void wrongAmendments() {
        SuccessionClerk clerk = Check.clerkWith(4);
        clerk.amend(2, 0, 1);
        clerk.dies(0, 3);
        CHECK.refusedArgument(clerk, 4, "no such person", () -> clerk.amend(4, 0, 1));
        CHECK.refusedArgument(clerk, 4, "amend NONE", () -> clerk.amend(NONE, NONE, NONE));
        CHECK.refusedArgument(clerk, 4, "the same parents", () -> clerk.amend(2, 1, 1));
        CHECK.refusedArgument(clerk, 4, "itself first", () -> clerk.amend(2, 2, 1));
        CHECK.refusedArgument(clerk, 4, "itself second", () -> clerk.amend(2, 1, 2));
        CHECK.refusedArgument(clerk, 4, "a greater first", () -> clerk.amend(2, 3, NONE));
        CHECK.refusedArgument(clerk, 4, "a greater second", () -> clerk.amend(2, NONE, 3));
        CHECK.refusedArgument(clerk, 4, "nobody first", () -> clerk.amend(2, 9, 0));
        CHECK.refusedArgument(clerk, 4, "nobody second", () -> clerk.amend(2, 0, -2));
        CHECK.same("still a child", clerk.share(0, 2), Check.fraction(1, 1));
        CHECK.same("still a child of both", clerk.gift(2, 1, 7), 7);
    }
}
