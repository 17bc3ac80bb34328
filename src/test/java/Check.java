/** Counts the answers of a test that are not as due, and tells them. */
final class Check {
    private static final int NONE = SuccessionClerk.NONE;
    private int wrong;
    private SuccessionClerk watched;
    private int watchedPersons;
    private String watchedState;

    void same(String what, long got, long due) {
        if (got != due) {
            fail(what + " answered " + got + ", due is " + due);
        }
    }

    void same(String what, boolean got, boolean due) {
        same(what, got ? 1 : 0, due ? 1 : 0);
    }

    void same(String what, String got, String due) {
        if (!got.equals(due)) {
            fail(what + " is " + got + ", due is " + due);
        }
    }

    /** Notes what the clerk tells of its persons, for unchanged. */
    void watch(SuccessionClerk clerk, int persons) {
        watched = clerk;
        watchedPersons = persons;
        watchedState = stateOf(clerk, persons);
    }

    void unchanged() {
        same("the state after calls that were refused", stateOf(watched, watchedPersons), watchedState);
    }

    void refusedArgument(String what, Runnable call) {
        same(what, outcomeOf(call), "IllegalArgumentException");
    }

    void refusedState(String what, Runnable call) {
        same(what, outcomeOf(call), "IllegalStateException");
    }

    void fail(String what) {
        wrong++;
        System.out.println(what);
    }

    void end() {
        System.out.println(wrong == 0 ? "all as due" : wrong + " not as due");
        if (wrong != 0) {
            System.exit(1);
        }
    }

    static long fraction(long numerator, long denominator) {
        return numerator << 32 | denominator;
    }

    static SuccessionClerk clerkWith(int persons) {
        SuccessionClerk clerk = new SuccessionClerk();
        for (int i = 0; i < persons; i++) {
            clerk.person(NONE, NONE);
        }
        return clerk;
    }

    private static String outcomeOf(Runnable call) {
        try {
            call.run();
            return "no exception";
        } catch (RuntimeException e) {
            return e.getClass().getSimpleName();
        }
    }

    /** Begins with whether there are more persons than said. */
    private static String stateOf(SuccessionClerk clerk, int persons) {
        StringBuilder state = new StringBuilder();
        state.append(outcomeOf(() -> clerk.spouse(persons))).append(' ').append(clerk.got(NONE));
        for (int of = 0; of < persons; of++) {
            int estate = of;
            state.append('|').append(clerk.spouse(of)).append(' ').append(clerk.total(of));
            state.append(' ').append(clerk.got(of));
            if (outcomeOf(() -> clerk.order(estate)).equals("no exception")) {
                appendEstate(state, clerk, of, persons);
            }
        }
        return state.toString();
    }

    private static void appendEstate(StringBuilder state, SuccessionClerk clerk, int of, int persons) {
        state.append(" order ").append(clerk.order(of)).append(" heirs ").append(clerk.heirs(of));
        state.append(" town ").append(clerk.paid(of, NONE));
        for (int who = 0; who < persons; who++) {
            state.append(' ').append(clerk.share(of, who)).append(' ').append(clerk.stem(of, who));
            state.append(' ').append(clerk.paid(of, who));
        }
    }
}
