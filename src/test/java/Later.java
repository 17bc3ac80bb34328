import java.util.function.LongSupplier;

/**
 * What later calls answer: all that can be seen of a clerk's state, what is hidden at first too
 * (gifts, parents, exclusions, estates, days). Each look is at an object of its own that is
 * brought to the same state, so that no look disturbs another one.
 */
final class Later {
    private static final int NONE = SuccessionClerk.NONE;
    private static final int MOST_PERSONS = 20;
    private static final int DAYS = 1000;

    private final Desk desk;
    private final StringBuilder told = new StringBuilder();
    private int persons;

    private Later(Desk desk) {
        this.desk = desk;
    }

    /** A line for each answer. */
    static String answers(Desk desk) {
        Later later = new Later(desk);
        later.tellAll();
        return later.told.toString();
    }

    /** An answer, or the name of what was thrown. */
    static String outcomeOf(LongSupplier call) {
        try {
            return String.valueOf(call.getAsLong());
        } catch (RuntimeException e) {
            return e.getClass().getSimpleName();
        }
    }

    private void tell(String what, LongSupplier call) {
        told.append(what).append(": ").append(outcomeOf(call)).append('\n');
    }

    private static long done(Runnable call) {
        call.run();
        return 0;
    }

    private void tellAll() {
        countPersons(desk.again());
        tellNewcomer(desk.again());
        for (int who = 0; who < persons; who++) {
            tellAccounts("", desk.again(), who);
            tellEstate(desk.again(), who);
            tellExclusions(desk.again(), who);
            tellGifts(desk.again(), who);
            tellMarriages(desk.again(), who);
            tellOwnEstate(desk.again(), who);
            tellDay(who);
            Desk anew = desk.again();
            tell("settle", anew::settle);
            tellAccounts("anew ", anew, who);
        }
    }

    private void countPersons(Desk clerk) {
        persons = 0;
        while (persons < MOST_PERSONS && !outcomeOf(() -> clerk.spouse(persons)).startsWith("Illegal")) {
            persons++;
        }
        tell("spouse of one more than " + persons, () -> clerk.spouse(persons));
    }

    private void tellNewcomer(Desk clerk) {
        tell("the town got", () -> clerk.got(NONE));
        tell("the next person", () -> clerk.person(NONE, NONE));
        tell("the town got anew", () -> clerk.settle() * 1000000000L + clerk.got(NONE));
    }

    private void tellAccounts(String when, Desk clerk, int who) {
        tell(when + "total " + who, () -> clerk.total(who));
        tell(when + "got " + who, () -> clerk.got(who));
        for (int to = NONE; to < persons; to++) {
            int place = to;
            tell(when + "paid " + who + " " + to, () -> clerk.paid(who, place));
        }
    }

    private void tellEstate(Desk clerk, int of) {
        tell("order " + of, () -> clerk.order(of));
        tell("heirs " + of, () -> clerk.heirs(of));
        for (int other = 0; other < persons; other++) {
            int who = other;
            tell("heir " + of + " " + who, () -> clerk.heir(of, who));
            tell("share " + of + " " + who, () -> clerk.share(of, who));
            tell("stem " + of + " " + who, () -> clerk.stem(of, who));
        }
    }

    private void tellExclusions(Desk clerk, int from) {
        for (int other = 0; other < persons; other++) {
            int who = other;
            tell("excluded " + who + " " + from, () -> clerk.exclude(who, from, false) ? 1 : 0);
        }
    }

    /** First those from parents, then those from others, which stay recorded. */
    private void tellGifts(Desk clerk, int child) {
        for (int other = 0; other < child; other++) {
            int from = other;
            tell("gifts " + child + " " + from, () -> clerk.gift(child, from, 1));
        }
        for (int other = 0; other < child; other++) {
            int from = other;
            tell("amend", () -> done(() -> clerk.amend(child, from, NONE)));
            tell("recorded gifts " + child + " " + from, () -> clerk.gift(child, from, 1));
        }
    }

    private void tellMarriages(Desk clerk, int who) {
        tell("spouse " + who, () -> clerk.spouse(who));
        tell("divorce " + who, () -> clerk.divorce(who) ? 1 : 0);
        for (int other = 0; other < persons; other++) {
            int wooed = other;
            tell("marry " + who + " " + wooed, () -> done(() -> clerk.marry(who, wooed)));
        }
    }

    private void tellOwnEstate(Desk clerk, int who) {
        tell("dies " + who, () -> done(() -> clerk.dies(who, DAYS - 1)));
        tell("settle", clerk::settle);
        tell("total when dead " + who, () -> clerk.total(who));
    }

    /** The first day on which a child would be too late to be gone, found by halving. */
    private void tellDay(int who) {
        int least = 0;
        int most = DAYS;
        while (persons < MOST_PERSONS && least < most) {
            int middle = (least + most) / 2;
            Desk clerk = desk.again();
            int child = clerk.childOf(who);
            clerk.dies(child, middle);
            if (outcomeOf(() -> clerk.stem(who, child)).equals(String.valueOf(child))) {
                most = middle;
            } else {
                least = middle + 1;
            }
        }
        told.append("day ").append(who).append(": ").append(least - 1).append('\n');
    }
}
