/** Counts the answers of a test that are not as due, and tells them. */
final class Check {
    private static final int NONE = SuccessionClerk.NONE;
    private int wrong;

    void same(String what, long got, long due) {
        if (got != due) {
            fail(what + " answered " + got + ", due is " + due);
        }
    }

    void same(String what, boolean got, boolean due) {
        same(what, got ? 1 : 0, due ? 1 : 0);
    }

    void same(String what, String got, String due) {
        if (!got.equals(due)) {
            fail(what + " is " + got + ", due is " + due);
        }
    }

    /** The call throws just this, and what the clerk tells of the first persons stays the same. */
    void refused(SuccessionClerk clerk, int persons, Class<?> due, String what, Runnable call) {
        String before = stateOf(clerk, persons);
        String got = outcomeOf(call);
        if (!got.equals(due.getSimpleName())) {
            fail(what + " ended with " + got + ", due is " + due.getSimpleName());
        }
        same("the state after " + what, stateOf(clerk, persons), before);
    }

    void refusedArgument(SuccessionClerk clerk, int persons, String what, Runnable call) {
        refused(clerk, persons, IllegalArgumentException.class, what, call);
    }

    void refusedState(SuccessionClerk clerk, int persons, String what, Runnable call) {
        refused(clerk, persons, IllegalStateException.class, what, call);
    }

    void fail(String what) {
        wrong++;
        System.out.println(what);
    }

    void end() {
        System.out.println(wrong == 0 ? "all as due" : wrong + " not as due");
        if (wrong != 0) {
            System.exit(1);
        }
    }

    static long fraction(long numerator, long denominator) {
        return numerator << 32 | denominator;
    }

    static SuccessionClerk clerkWith(int persons) {
        SuccessionClerk clerk = new SuccessionClerk();
        for (int i = 0; i < persons; i++) {
            clerk.person(NONE, NONE);
        }
        return clerk;
    }

    private static String outcomeOf(Runnable call) {
        try {
            call.run();
            return "no exception";
        } catch (RuntimeException e) {
            return e.getClass().getSimpleName();
        }
    }

    /** Also tells whether there are as many persons as said, by asking for one more. */
    private static String stateOf(SuccessionClerk clerk, int persons) {
        StringBuilder state = new StringBuilder();
        state.append(outcomeOf(() -> clerk.spouse(persons))).append(' ').append(clerk.got(NONE));
        for (int of = 0; of < persons; of++) {
            state.append('|').append(clerk.spouse(of)).append(' ').append(clerk.total(of));
            state.append(' ').append(clerk.got(of)).append(' ').append(clerk.paid(of, NONE));
            appendEstate(state, clerk, of, persons);
        }
        return state.toString();
    }

    private static void appendEstate(StringBuilder state, SuccessionClerk clerk, int of, int persons) {
        int asked = of;
        boolean died = outcomeOf(() -> clerk.order(asked)).equals("no exception");
        state.append(died ? " order " + clerk.order(of) + " heirs " + clerk.heirs(of) : " lives");
        for (int who = 0; who < persons; who++) {
            state.append(' ').append(clerk.paid(of, who));
            if (died) {
                state.append(' ').append(clerk.share(of, who)).append(' ').append(clerk.stem(of, who));
            }
        }
    }
}
