import java.util.function.Supplier;

/**
 * "Methods throw what their comments name, the one named first when several would do; a call that
 * throws, or answers false, changes nothing." Each refusal of each promise alone on a new object,
 * with all that later calls answer; and questions, which change nothing either.
 */
public final class RefusalsTest {
    private static final int NONE = SuccessionClerk.NONE;
    private static final int MOST = 1000000;
    private static final Check CHECK = new Check();

    public static void main(String[] args) {
        sameParents();
        sameParentsAmended();
        marriagesRefused();
        marriagesOfTheDead();
        marriagesNamedFirst();
        divorcesWithoutASpouse();
        divorcesOfTheDead();
        deathsRefused();
        deathsNamedFirst();
        exclusionsThatWereSo();
        giftsOfNoParent();
        giftsNamedFirst();
        estatesOfTheLiving();
        questionsChangeNothing();
        settlingAgainChangesNothing();
        CHECK.end();
    }

    /**
     * 0 and 1 have the children 2, 3 and 4, and 2 has the child 5; 6 and 7 are no kin. 0 and 1 are
     * married, 3 and 6 too; 1 and 5 died; there are gifts, estates and an exclusion. All was settled,
     * and an estate changed since, so that to settle in secret would be seen.
     */
    private static Desk family() {
        Desk clerk = Desk.with(2);
        clerk.person(0, 1);
        clerk.person(0, 1);
        clerk.person(1, NONE);
        clerk.childOf(2);
        clerk.person(NONE, NONE);
        clerk.person(NONE, NONE);
        clerk.marry(0, 1);
        clerk.marry(3, 6);
        clerk.gift(2, 1, 40);
        clerk.gift(3, 0, MOST);
        clerk.estate(0, 70);
        clerk.estate(1, 1000);
        clerk.estate(5, 33);
        clerk.exclude(4, 1, true);
        clerk.dies(1, 10);
        clerk.dies(5, 20);
        clerk.settle();
        clerk.estate(5, 34);
        return clerk;
    }

    private interface Deed {
        void on(Desk clerk);
    }

    private static void argument(String what, Deed deed) {
        Desk clerk = family();
        CHECK.argumentAlone(what, clerk, () -> deed.on(clerk));
    }

    private static void state(String what, Deed deed) {
        Desk clerk = family();
        CHECK.stateAlone(what, clerk, () -> deed.on(clerk));
    }

    /** Promise 2. "IllegalArgumentException: they are the same, but for NONE." */
    private static void sameParents() {
        argument("the first person twice", clerk -> clerk.person(0, 0));
        argument("a dead person twice", clerk -> clerk.person(1, 1));
        argument("the last person twice", clerk -> clerk.person(7, 7));
        argument("the next person twice", clerk -> clerk.person(8, 8));
        argument("-2 twice", clerk -> clerk.person(-2, -2));
        CHECK.same("NONE twice", family().person(NONE, NONE), 8);
        Desk full = Desk.with(20);
        CHECK.argumentAlone("named first: the same, and there are 20", full, () -> full.person(3, 3));
        CHECK.argumentAlone("named first: the last twice, and there are 20", full, () -> full.person(19, 19));
        Desk nearlyFull = Desk.with(19);
        CHECK.argumentAlone("the same, and there are 19", nearlyFull, () -> nearlyFull.person(18, 18));
        CHECK.same("room is left", nearlyFull.person(18, 17), 19);
    }

    /** Promise 3. "A person's parents become others (it may have died)." */
    private static void sameParentsAmended() {
        argument("the first person twice", clerk -> clerk.amend(2, 0, 0));
        argument("its second parent twice", clerk -> clerk.amend(2, 1, 1));
        argument("the same for a dead one", clerk -> clerk.amend(5, 4, 4));
        argument("the same for the last one", clerk -> clerk.amend(7, 6, 6));
        argument("-2 twice", clerk -> clerk.amend(2, -2, -2));
        argument("a first parent that is right, a second that is not", clerk -> clerk.amend(2, NONE, 2));
        argument("a second parent that is right, a first that is not", clerk -> clerk.amend(2, 2, NONE));
        Desk clerk = family();
        clerk.amend(5, 3, 4);
        CHECK.same("a dead one's first parent", clerk.gift(5, 3, 1), 1);
        CHECK.same("a dead one's second parent", clerk.gift(5, 4, 1), 1);
        CHECK.refusedArgument("its parent before", () -> clerk.gift(5, 2, 1));
        clerk.amend(5, NONE, NONE);
        CHECK.refusedArgument("no parent any more", () -> clerk.gift(5, 3, 1));
        clerk.amend(5, 3, 4);
        CHECK.same("its parents once more", clerk.gift(5, 4, 1), 2);
        clerk.amend(5, 4, 3);
        CHECK.same("the other way round", clerk.gift(5, 4, 1), 3);
        clerk.amend(5, 4, 3);
        CHECK.same("the same ones again", clerk.gift(5, 3, 1), 2);
    }

    /** Promise 4. "IllegalStateException: one of them died, or has a spouse who did not die." */
    private static void marriagesRefused() {
        argument("itself", clerk -> clerk.marry(7, 7));
        argument("itself, the first", clerk -> clerk.marry(0, 0));
        state("the first died", clerk -> clerk.marry(5, 7));
        state("the second died", clerk -> clerk.marry(7, 5));
        state("the first died, and had a spouse", clerk -> clerk.marry(1, 7));
        state("the second died, and had a spouse", clerk -> clerk.marry(7, 1));
        state("the first has a spouse", clerk -> clerk.marry(3, 7));
        state("the second has a spouse", clerk -> clerk.marry(7, 6));
        state("they are married", clerk -> clerk.marry(3, 6));
        state("they are married, the other way round", clerk -> clerk.marry(6, 3));
        state("a widow and one who has a spouse", clerk -> clerk.marry(0, 3));
        state("one who has a spouse and a widow", clerk -> clerk.marry(6, 0));
        state("a widow and her dead spouse", clerk -> clerk.marry(0, 1));
        state("both died", clerk -> clerk.marry(1, 5));
        Desk clerk = family();
        clerk.marry(0, 7);
        CHECK.same("a widow may", clerk.spouse(0), 7);
        CHECK.same("the dead one's spouse stays so", clerk.spouse(1), 0);
        CHECK.stateAlone("a widow who did so", clerk, () -> clerk.marry(0, 2));
        CHECK.stateAlone("the new spouse", clerk, () -> clerk.marry(2, 7));
        clerk.dies(7, 30);
        clerk.marry(2, 0);
        CHECK.same("a widow twice", clerk.spouse(0), 2);
        CHECK.same("the first dead one's spouse", clerk.spouse(1), 0);
        CHECK.same("the second dead one's spouse", clerk.spouse(7), 0);
    }

    private static void marriagesOfTheDead() {
        Desk clerk = Desk.with(4);
        clerk.marry(0, 1);
        clerk.dies(0, 5);
        clerk.dies(1, 6);
        CHECK.stateAlone("a dead one whose spouse died", clerk, () -> clerk.marry(0, 2));
        CHECK.stateAlone("to a dead one whose spouse died", clerk, () -> clerk.marry(2, 1));
        CHECK.stateAlone("two dead ones again", clerk, () -> clerk.marry(0, 1));
        CHECK.same("the spouse of the first", clerk.spouse(0), 1);
        CHECK.same("the spouse of the second", clerk.spouse(1), 0);
    }

    /** "IllegalArgumentException: they are the same." */
    private static void marriagesNamedFirst() {
        argument("named first: itself, and it died", clerk -> clerk.marry(5, 5));
        argument("named first: itself, and it died, a spouse", clerk -> clerk.marry(1, 1));
        argument("named first: itself, and it has a spouse", clerk -> clerk.marry(3, 3));
        argument("named first: itself, a widow", clerk -> clerk.marry(0, 0));
    }

    private static void answersFalse(String what, Supplier<Desk> made, int person) {
        Desk clerk = made.get();
        CHECK.falseAlone(what, clerk, () -> clerk.divorce(person));
    }

    /** Promise 5. "false when it has none, or one of them died" */
    private static void divorcesWithoutASpouse() {
        answersFalse("who never had one", RefusalsTest::family, 7);
        answersFalse("the first of a new object", () -> Desk.with(1), 0);
        Desk clerk = family();
        CHECK.same("who has one", clerk.divorce(6), true);
        CHECK.same("its own", clerk.spouse(6), NONE);
        CHECK.same("the other's", clerk.spouse(3), NONE);
        CHECK.falseAlone("who had one", clerk, () -> clerk.divorce(6));
        CHECK.falseAlone("the other one", clerk, () -> clerk.divorce(3));
        clerk.marry(3, 6);
        CHECK.same("married again", clerk.spouse(3), 6);
        CHECK.same("divorced again, by the other one", clerk.divorce(3), true);
        CHECK.same("the one", clerk.spouse(6), NONE);
    }

    private static void divorcesOfTheDead() {
        answersFalse("whose spouse died", RefusalsTest::family, 0);
        answersFalse("who died", RefusalsTest::family, 1);
        answersFalse("who died and had none", RefusalsTest::family, 5);
        Desk both = family();
        both.dies(0, 10);
        CHECK.falseAlone("both died", both, () -> both.divorce(0));
        CHECK.falseAlone("both died, the other one", both, () -> both.divorce(1));
        Desk again = family();
        again.marry(0, 7);
        CHECK.falseAlone("a dead one whose spouse married again", again, () -> again.divorce(1));
        CHECK.same("the new marriage", again.divorce(0), true);
        CHECK.same("no spouse now", again.spouse(0), NONE);
        CHECK.same("nor the other", again.spouse(7), NONE);
        CHECK.same("the dead one's", again.spouse(1), 0);
        CHECK.falseAlone("the dead one still", again, () -> again.divorce(1));
    }

    /** Promise 7. "IllegalStateException: it died already." */
    private static void deathsRefused() {
        state("on the same day", clerk -> clerk.dies(1, 10));
        state("on the day before", clerk -> clerk.dies(1, 9));
        state("on the day after", clerk -> clerk.dies(1, 11));
        state("on the first day", clerk -> clerk.dies(5, 0));
        state("on the last day", clerk -> clerk.dies(5, 999));
        for (int day : new int[] {0, 999}) {
            Desk clerk = Desk.with(1);
            clerk.dies(0, day);
            CHECK.stateAlone("who died on the day " + day, clerk, () -> clerk.dies(0, 999 - day));
        }
    }

    /** "IllegalArgumentException: day is not 0 .. 999.", which is named first. */
    private static void deathsNamedFirst() {
        argument("named first: the day -1, and it died", clerk -> clerk.dies(1, -1));
        argument("named first: the day 1000, and it died", clerk -> clerk.dies(1, 1000));
        argument("the day -1", clerk -> clerk.dies(0, -1));
        argument("the day 1000", clerk -> clerk.dies(0, 1000));
    }

    /** Promise 8. "Answers whether it was otherwise before." */
    private static void exclusionsThatWereSo() {
        Desk clerk = family();
        CHECK.falseAlone("it was excluded", clerk, () -> clerk.exclude(4, 1, true));
        CHECK.falseAlone("it was not", clerk, () -> clerk.exclude(2, 1, false));
        CHECK.falseAlone("nor was the other from it", clerk, () -> clerk.exclude(1, 4, false));
        CHECK.falseAlone("nor was it from another's", clerk, () -> clerk.exclude(4, 0, false));
        CHECK.falseAlone("nor from its own", clerk, () -> clerk.exclude(4, 4, false));
        CHECK.same("no longer", clerk.exclude(4, 1, false), true);
        CHECK.falseAlone("no longer, again", clerk, () -> clerk.exclude(4, 1, false));
        CHECK.same("from its own", clerk.exclude(4, 4, true), true);
        CHECK.falseAlone("from its own, again", clerk, () -> clerk.exclude(4, 4, true));
        CHECK.same("a dead one from a living one's", clerk.exclude(5, 0, true), true);
        CHECK.same("a dead one from its own", clerk.exclude(1, 1, true), true);
        CHECK.same("a dead one from its own no longer", clerk.exclude(1, 1, false), true);
        Desk full = Desk.with(20);
        for (int who = 0; who < 20; who++) {
            CHECK.same("excluded " + who, full.exclude(who, 19 - who, true), true);
        }
        for (int who = 0; who < 20; who++) {
            CHECK.same("excluded before " + who, full.exclude(who, 19 - who, true), false);
            CHECK.same("not from the next " + who, full.exclude(who, who, false), false);
            CHECK.same("no longer " + who, full.exclude(who, 19 - who, false), true);
            CHECK.same("not any more " + who, full.exclude(who, 19 - who, false), false);
        }
    }

    /** Promise 9. "IllegalArgumentException: from is no parent of the child" */
    private static void giftsOfNoParent() {
        argument("no kin", clerk -> clerk.gift(2, 7, 1));
        argument("a sibling", clerk -> clerk.gift(3, 2, 1));
        argument("a grandparent", clerk -> clerk.gift(5, 0, 1));
        argument("its own child", clerk -> clerk.gift(2, 5, 1));
        argument("itself", clerk -> clerk.gift(2, 2, 1));
        argument("a spouse", clerk -> clerk.gift(6, 3, 1));
        argument("the other parent of its siblings", clerk -> clerk.gift(4, 0, 1));
        argument("who has parents that are not known", clerk -> clerk.gift(7, 0, 1));
        Desk clerk = family();
        clerk.amend(2, 0, NONE);
        CHECK.argumentAlone("a parent no more", clerk, () -> clerk.gift(2, 1, 1));
        clerk.amend(2, NONE, 1);
        CHECK.same("its gifts stay recorded", clerk.gift(2, 1, 2), 42);
        CHECK.argumentAlone("the other one no more", clerk, () -> clerk.gift(2, 0, 1));
        CHECK.same("from a dead parent", clerk.gift(4, 1, 3), 3);
        CHECK.same("to a dead child", clerk.gift(5, 2, 4), 4);
    }

    /** "or cents not 1 .. 1000000", which is named before all its gifts. */
    private static void giftsNamedFirst() {
        argument("named first: 0 cents, and it has all", clerk -> clerk.gift(3, 0, 0));
        argument("named first: 1000001 cents, and it has all", clerk -> clerk.gift(3, 0, MOST + 1));
        argument("named first: 1000001 cents, and it has some", clerk -> clerk.gift(2, 1, MOST + 1));
        argument("no parent, and 0 cents", clerk -> clerk.gift(3, 7, 0));
        state("a cent above all", clerk -> clerk.gift(3, 0, 1));
        state("a cent above all behind some", clerk -> clerk.gift(2, 1, MOST - 39));
        CHECK.same("all behind some", family().gift(2, 1, MOST - 40), MOST);
        Desk clerk = family();
        clerk.amend(3, NONE, 1);
        CHECK.argumentAlone("named first: no parent any more, and it has all", clerk, () -> clerk.gift(3, 0, 1));
        clerk.amend(3, 0, 1);
        CHECK.stateAlone("a parent again, and it has all", clerk, () -> clerk.gift(3, 0, 1));
    }

    /** Promises 11 to 15. "IllegalStateException, here and below: of did not die." */
    private static void estatesOfTheLiving() {
        for (int living : new int[] {0, 2, 7}) {
            state("heirs of " + living, clerk -> clerk.heirs(living));
            state("heir of " + living, clerk -> clerk.heir(living, 0));
            state("heir -1 of " + living, clerk -> clerk.heir(living, -1));
            state("share of the estate of " + living, clerk -> clerk.share(living, 1));
            state("its own share of the estate of " + living, clerk -> clerk.share(living, living));
            state("order of " + living, clerk -> clerk.order(living));
            state("stem of " + living, clerk -> clerk.stem(living, 1));
            state("its own stem of " + living, clerk -> clerk.stem(living, living));
        }
        Desk clerk = family();
        clerk.dies(0, 999);
        CHECK.same("heirs when it died", clerk.heirs(0), 2);
    }

    private static void questionsChangeNothing() {
        Desk clerk = family();
        CHECK.questionAlone("spouse", clerk, () -> clerk.spouse(3), 6);
        CHECK.questionAlone("heirs", clerk, () -> clerk.heirs(1), 3);
        CHECK.questionAlone("heir", clerk, () -> clerk.heir(1, 2), 3);
        CHECK.questionAlone("no heir", clerk, () -> clerk.heir(1, 3), NONE);
        CHECK.questionAlone("share", clerk, () -> clerk.share(1, 2), Check.fraction(3, 8));
        CHECK.questionAlone("no share", clerk, () -> clerk.share(1, 4), 0);
        CHECK.questionAlone("order", clerk, () -> clerk.order(5), 1);
        CHECK.questionAlone("stem", clerk, () -> clerk.stem(5, 2), 2);
        CHECK.questionAlone("no stem", clerk, () -> clerk.stem(5, 3), NONE);
        CHECK.questionAlone("paid", clerk, () -> clerk.paid(1, 0), 250);
        CHECK.questionAlone("paid to the town", clerk, () -> clerk.paid(1, NONE), 0);
        CHECK.questionAlone("total", clerk, () -> clerk.total(1), 1000);
        CHECK.questionAlone("got", clerk, () -> clerk.got(3), 395);
        CHECK.questionAlone("got by the town", clerk, () -> clerk.got(NONE), 0);
        CHECK.paid(clerk, 1, 2, 355);
        CHECK.paid(clerk, 5, 2, 33);
    }

    /** Promise 16. "(what was settled before counts no more)" */
    private static void settlingAgainChangesNothing() {
        Desk clerk = family();
        CHECK.same("settle", clerk.settle(), 2);
        CHECK.questionAlone("settle once more", clerk, clerk::settle, 2);
        Desk nobody = new Desk();
        CHECK.questionAlone("settle nobody", nobody, nobody::settle, 0);
        Desk living = Desk.with(20);
        CHECK.questionAlone("settle the living", living, living::settle, 0);
    }
}
