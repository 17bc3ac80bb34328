import java.util.ArrayList;
import java.util.List;

/**
 * "Persons that there are not: IllegalArgumentException, everywhere, tested first." In each place
 * where a method takes a person, with nobody, some and all persons entered: the numbers next to
 * those that there are, and far ones, beside other arguments that are right, that are wrong, and
 * that would do for IllegalStateException or for the answer false.
 */
public final class NobodyTest {
    private static final int NONE = SuccessionClerk.NONE;
    private static final Check CHECK = new Check();

    public static void main(String[] args) {
        for (int persons : new int[] {0, 1, 2, 5, 20}) {
            nobodyAnywhere(persons);
        }
        noneIsNobody();
        noneIsAllowed();
        firstAndLastAllowed();
        testedBeforeTheState();
        CHECK.end();
    }

    private static List<Integer> nobodies(int persons) {
        List<Integer> numbers = new ArrayList<>(List.of(persons, persons + 1, -2, -3, -20, -21, -32, 20, 21, 31,
            32, 33, 63, 64, 400, 1 << 16, 1 << 24, Integer.MAX_VALUE, Integer.MIN_VALUE, Integer.MIN_VALUE + 1));
        numbers.removeIf(number -> number >= 0 && number < persons);
        return numbers;
    }

    /** A chain of parents and children; 0 died and was settled, and the next two are married. */
    private static Desk chain(int persons) {
        Desk clerk = new Desk();
        for (int who = 0; who < persons; who++) {
            clerk.childOf(who - 1);
        }
        if (persons > 0) {
            clerk.estate(0, 100);
            clerk.dies(0, 3);
            clerk.settle();
        }
        if (persons > 2) {
            clerk.gift(2, 1, 1000000);
            clerk.marry(1, 2);
        }
        return clerk;
    }

    private static void nobodyAnywhere(int persons) {
        for (int nobody : nobodies(persons)) {
            Desk clerk = chain(persons);
            CHECK.watch(clerk);
            changesRefused(clerk, persons, nobody);
            parentsRefused(clerk, persons, nobody);
            questionsRefused(clerk, persons, nobody);
            accountsRefused(clerk, persons, nobody);
            CHECK.unchanged();
        }
    }

    /** Some who are there, the first and the last, and NONE and the nobody itself. */
    private static int[] others(int persons, int nobody) {
        return new int[] {0, persons - 1, NONE, nobody};
    }

    private static void changesRefused(Desk clerk, int persons, int nobody) {
        String told = " with " + nobody + " of " + persons;
        for (int other : others(persons, nobody)) {
            CHECK.refusedArgument("marry" + told, () -> clerk.marry(nobody, other));
            CHECK.refusedArgument("marry to" + told, () -> clerk.marry(other, nobody));
            CHECK.refusedArgument("exclude" + told, () -> clerk.exclude(nobody, other, true));
            CHECK.refusedArgument("exclude from" + told, () -> clerk.exclude(other, nobody, true));
            CHECK.refusedArgument("exclude no longer" + told, () -> clerk.exclude(nobody, other, false));
            CHECK.refusedArgument("exclude no longer from" + told, () -> clerk.exclude(other, nobody, false));
            CHECK.refusedArgument("gift" + told, () -> clerk.gift(nobody, other, 1));
            CHECK.refusedArgument("gift from" + told, () -> clerk.gift(other, nobody, 1));
            CHECK.refusedArgument("gift of 0" + told, () -> clerk.gift(other, nobody, 0));
        }
        CHECK.refusedArgument("divorce" + told, () -> clerk.divorce(nobody));
        CHECK.refusedArgument("dies" + told, () -> clerk.dies(nobody, 0));
        CHECK.refusedArgument("dies on no day" + told, () -> clerk.dies(nobody, 1000));
        CHECK.refusedArgument("estate" + told, () -> clerk.estate(nobody, 0));
        CHECK.refusedArgument("estate of -1" + told, () -> clerk.estate(nobody, -1));
    }

    private static void parentsRefused(Desk clerk, int persons, int nobody) {
        String told = " with " + nobody + " of " + persons;
        CHECK.refusedArgument("amend with parents not known" + told, () -> clerk.amend(nobody, NONE, NONE));
        for (int other : others(persons, nobody)) {
            CHECK.refusedArgument("person, first" + told, () -> clerk.person(nobody, other));
            CHECK.refusedArgument("person, second" + told, () -> clerk.person(other, nobody));
            CHECK.refusedArgument("amend" + told, () -> clerk.amend(nobody, other, NONE));
            CHECK.refusedArgument("amend, first" + told, () -> clerk.amend(persons - 1, nobody, other));
            CHECK.refusedArgument("amend, second" + told, () -> clerk.amend(persons - 1, other, nobody));
        }
    }

    /** Of 0, who died, and of the last one, who did not where there are several. */
    private static void questionsRefused(Desk clerk, int persons, int nobody) {
        String told = " with " + nobody + " of " + persons;
        CHECK.refusedArgument("spouse" + told, () -> clerk.spouse(nobody));
        CHECK.refusedArgument("heirs" + told, () -> clerk.heirs(nobody));
        CHECK.refusedArgument("heir 0" + told, () -> clerk.heir(nobody, 0));
        CHECK.refusedArgument("heir -1" + told, () -> clerk.heir(nobody, -1));
        CHECK.refusedArgument("order" + told, () -> clerk.order(nobody));
        for (int other : others(persons, nobody)) {
            CHECK.refusedArgument("share of" + told, () -> clerk.share(nobody, other));
            CHECK.refusedArgument("share" + told, () -> clerk.share(other, nobody));
            CHECK.refusedArgument("stem of" + told, () -> clerk.stem(nobody, other));
            CHECK.refusedArgument("stem" + told, () -> clerk.stem(other, nobody));
        }
    }

    private static void accountsRefused(Desk clerk, int persons, int nobody) {
        String told = " with " + nobody + " of " + persons;
        for (int other : others(persons, nobody)) {
            CHECK.refusedArgument("paid of" + told, () -> clerk.paid(nobody, other));
            CHECK.refusedArgument("paid to" + told, () -> clerk.paid(other, nobody));
        }
        CHECK.refusedArgument("total" + told, () -> clerk.total(nobody));
        CHECK.refusedArgument("got" + told, () -> clerk.got(nobody));
    }

    /** NONE stands for a parent who is not known and for the town, and for nobody elsewhere. */
    private static void noneIsNobody() {
        for (int persons : new int[] {0, 1, 5, 20}) {
            Desk clerk = chain(persons);
            CHECK.watch(clerk);
            changesRefused(clerk, persons, NONE);
            questionsRefused(clerk, persons, NONE);
            CHECK.refusedArgument("amend NONE", () -> clerk.amend(NONE, NONE, NONE));
            CHECK.refusedArgument("paid of NONE", () -> clerk.paid(NONE, 0));
            CHECK.refusedArgument("paid of NONE to the town", () -> clerk.paid(NONE, NONE));
            CHECK.refusedArgument("total of NONE", () -> clerk.total(NONE));
            CHECK.unchanged();
        }
    }

    /** "NONE for one who is not known"; "what the town was paid for NONE"; "the town for NONE" */
    private static void noneIsAllowed() {
        Desk clerk = Desk.with(2);
        CHECK.same("person with parents not known", clerk.person(NONE, NONE), 2);
        CHECK.same("person with a first not known", clerk.person(NONE, 2), 3);
        CHECK.same("person with a second not known", clerk.person(2, NONE), 4);
        clerk.amend(4, NONE, NONE);
        clerk.estate(0, 6);
        clerk.dies(0, 0);
        clerk.settle();
        CHECK.paid(clerk, 0, NONE, 6);
        CHECK.paid(clerk, 1, NONE, 0);
        CHECK.same("got by the town", clerk.got(NONE), 6);
        CHECK.same("got by the town of a new object", new Desk().got(NONE), 0);
    }

    private static void firstAndLastAllowed() {
        for (int persons : new int[] {1, 2, 19, 20}) {
            Desk clerk = Desk.with(persons);
            for (int who : new int[] {0, persons - 1}) {
                CHECK.same("spouse " + who, clerk.spouse(who), NONE);
                CHECK.same("divorce " + who, clerk.divorce(who), false);
                CHECK.same("exclude " + who, clerk.exclude(who, persons - 1 - who, false), false);
                CHECK.same("total " + who, clerk.total(who), 0);
                CHECK.same("got " + who, clerk.got(who), 0);
                CHECK.paid(clerk, who, persons - 1 - who, 0);
                clerk.estate(who, 1);
                clerk.amend(who, NONE, NONE);
            }
            clerk.dies(persons - 1, 7);
            CHECK.same("heirs", clerk.heirs(persons - 1), 0);
            CHECK.same("heir", clerk.heir(persons - 1, 0), NONE);
            CHECK.same("order", clerk.order(persons - 1), 5);
            CHECK.noShare(clerk, persons - 1, 0);
            CHECK.noShare(clerk, persons - 1, persons - 1);
            CHECK.same("stem", clerk.stem(persons - 1, persons - 1), NONE);
        }
    }

    /** Each call would do for IllegalStateException, if the person were there. */
    private static void testedBeforeTheState() {
        Desk clerk = Desk.parentOf(3);
        clerk.gift(1, 0, 1000000);
        clerk.marry(1, 2);
        clerk.dies(0, 3);
        CHECK.argumentAlone("a dead one to nobody", clerk, () -> clerk.marry(0, 4));
        CHECK.argumentAlone("nobody to a dead one", clerk, () -> clerk.marry(4, 0));
        CHECK.argumentAlone("a married one to nobody", clerk, () -> clerk.marry(1, 4));
        CHECK.argumentAlone("nobody to a married one", clerk, () -> clerk.marry(4, 1));
        CHECK.argumentAlone("nobody to nobody", clerk, () -> clerk.marry(4, 5));
        CHECK.argumentAlone("nobody to itself", clerk, () -> clerk.marry(4, 4));
        CHECK.argumentAlone("nobody's share of a living one's estate", clerk, () -> clerk.share(3, 4));
        CHECK.argumentAlone("NONE's share of a living one's estate", clerk, () -> clerk.share(3, NONE));
        CHECK.argumentAlone("nobody's stem in a living one's estate", clerk, () -> clerk.stem(3, 4));
        CHECK.argumentAlone("NONE's stem in a living one's estate", clerk, () -> clerk.stem(3, NONE));
        CHECK.argumentAlone("a gift from nobody to one who has all", clerk, () -> clerk.gift(1, 4, 1));
        CHECK.argumentAlone("a gift to nobody", clerk, () -> clerk.gift(4, 0, 1000000));
        Desk full = Desk.with(20);
        CHECK.argumentAlone("the 21st of itself", full, () -> full.person(20, NONE));
        CHECK.argumentAlone("the 21st of itself, second", full, () -> full.person(0, 20));
        CHECK.argumentAlone("the 21st of nobody", full, () -> full.person(-2, 21));
    }
}
