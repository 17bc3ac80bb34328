/**
 * The numbers that the document names, each at the last value that is allowed and at the first
 * that is not, on both sides; a test quotes the sentence that it holds.
 */
public final class LimitsTest {
    private static final int NONE = SuccessionClerk.NONE;
    private static final int MOST = 1000000;
    private static final int[] BEYOND_CENTS = {MOST + 1, MOST + 2, 2 * MOST, Integer.MAX_VALUE - MOST + 1,
        Integer.MAX_VALUE - MOST, Integer.MAX_VALUE, -2, -MOST, Integer.MIN_VALUE, Integer.MIN_VALUE + 1};
    private static final Check CHECK = new Check();

    public static void main(String[] args) {
        atMostTwentyPersons();
        theTwentiethIsAPersonLikeOthers();
        newPersonsParentsAreEnteredBefore();
        amendedParentsHaveLesserNumbers();
        theFirstPersonHasNoLesserOne();
        daysAllowed();
        daysRefused();
        estatesAllowed();
        estatesRefused();
        oneGiftAllowed();
        oneGiftRefused();
        allGiftsAllowed();
        allGiftsRefused();
        allGiftsAreOfOneChildFromOneParent();
        heirsFromZeroOn();
        heirOfMostHeirs();
        heirOfNone();
        theLastCall();
        allCallsOfOneKind();
        CHECK.end();
    }

    /** "at most 20"; "IllegalStateException: there are 20." */
    private static void atMostTwentyPersons() {
        Desk clerk = new Desk();
        for (int number = 0; number < 20; number++) {
            CHECK.same("person " + number, clerk.person(number - 1, NONE), number);
        }
        CHECK.stateAlone("the 21st", clerk, () -> clerk.person(NONE, NONE));
        CHECK.stateAlone("the 21st with the last two as parents", clerk, () -> clerk.person(18, 19));
        CHECK.stateAlone("the 21st once more", clerk, () -> clerk.person(0, NONE));
        Desk other = Desk.with(19);
        CHECK.same("with 19 there is room for one", other.person(0, 18), 19);
        CHECK.stateAlone("and not for two", other, () -> other.person(0, 18));
    }

    /** "PERSONS have numbers 0, 1, .. in the order in which they are entered, at most 20." */
    private static void theTwentiethIsAPersonLikeOthers() {
        Desk clerk = Desk.with(18);
        clerk.person(0, NONE);
        clerk.person(18, 0);
        CHECK.same("gift of the 19th to the 20th", clerk.gift(19, 18, 7), 7);
        clerk.marry(19, 17);
        CHECK.same("spouse of the 20th", clerk.spouse(19), 17);
        CHECK.same("divorce of the 20th", clerk.divorce(19), true);
        CHECK.same("excluded 20th", clerk.exclude(19, 0, true), true);
        CHECK.same("the 20th excludes", clerk.exclude(0, 19, true), true);
        clerk.estate(18, 9);
        clerk.dies(18, 998);
        CHECK.share(clerk, 18, 19, 1, 1);
        clerk.estate(19, 4);
        clerk.dies(19, 999);
        CHECK.same("heir of the 20th", clerk.heirs(19), 0);
        CHECK.same("settle", clerk.settle(), 2);
        CHECK.paid(clerk, 18, 19, 9);
        CHECK.same("total of the 20th", clerk.total(19), 13);
        CHECK.paid(clerk, 19, NONE, 13);
        CHECK.same("got by the 20th", clerk.got(19), 9);
        clerk.amend(19, 17, 18);
        CHECK.same("gift to the amended 20th", clerk.gift(19, 17, 2), 2);
    }

    /** "a known one has a lesser number": of a new person all who are there, and no others. */
    private static void newPersonsParentsAreEnteredBefore() {
        Desk clerk = new Desk();
        for (int number = 0; number < 4; number++) {
            int next = number;
            CHECK.argumentAlone("its own first parent " + next, clerk, () -> clerk.person(next, NONE));
            CHECK.argumentAlone("its own second parent " + next, clerk, () -> clerk.person(NONE, next));
            CHECK.argumentAlone("a first parent to come", clerk, () -> clerk.person(next + 1, NONE));
            CHECK.argumentAlone("a second parent to come", clerk, () -> clerk.person(NONE, next + 1));
            CHECK.same("with the last one as a parent", clerk.person(NONE, next - 1), next);
        }
        CHECK.same("NONE is no lesser number, but allowed", clerk.person(NONE, NONE), 4);
        CHECK.argumentAlone("below NONE, first", clerk, () -> clerk.person(NONE - 1, NONE));
        CHECK.argumentAlone("below NONE, second", clerk, () -> clerk.person(NONE, NONE - 1));
        CHECK.same("the least and the greatest", clerk.person(0, 4), 5);
        CHECK.same("of both a child: of the least", clerk.gift(5, 0, 1), 1);
        CHECK.same("of both a child: of the greatest", clerk.gift(5, 4, 1), 1);
    }

    /** "or a parent is not a person with a lesser number" */
    private static void amendedParentsHaveLesserNumbers() {
        Desk clerk = Desk.with(6);
        clerk.amend(3, 2, 0);
        CHECK.same("a first parent lesser by 1", clerk.gift(3, 2, 1), 1);
        CHECK.argumentAlone("itself as the first", clerk, () -> clerk.amend(3, 3, 0));
        CHECK.argumentAlone("a first greater by 1", clerk, () -> clerk.amend(3, 4, 0));
        CHECK.argumentAlone("the last one as the first", clerk, () -> clerk.amend(3, 5, NONE));
        clerk.amend(3, 0, 2);
        CHECK.same("a second parent lesser by 1", clerk.gift(3, 2, 1), 2);
        CHECK.argumentAlone("itself as the second", clerk, () -> clerk.amend(3, 0, 3));
        CHECK.argumentAlone("a second greater by 1", clerk, () -> clerk.amend(3, 0, 4));
        CHECK.argumentAlone("the last one as the second", clerk, () -> clerk.amend(3, NONE, 5));
        CHECK.argumentAlone("itself twice", clerk, () -> clerk.amend(3, 3, 3));
        CHECK.argumentAlone("greater ones twice", clerk, () -> clerk.amend(3, 4, 5));
        clerk.amend(5, 4, 3);
        CHECK.same("the last one's parent", clerk.gift(5, 4, 1), 1);
    }

    private static void theFirstPersonHasNoLesserOne() {
        Desk clerk = Desk.with(3);
        clerk.amend(0, NONE, NONE);
        CHECK.argumentAlone("0 of itself, first", clerk, () -> clerk.amend(0, 0, NONE));
        CHECK.argumentAlone("0 of itself, second", clerk, () -> clerk.amend(0, NONE, 0));
        CHECK.argumentAlone("0 of 1", clerk, () -> clerk.amend(0, 1, NONE));
        clerk.amend(1, 0, NONE);
        CHECK.same("1 of 0", clerk.gift(1, 0, 1), 1);
        CHECK.argumentAlone("1 of itself", clerk, () -> clerk.amend(1, 1, 0));
        CHECK.argumentAlone("1 of 2", clerk, () -> clerk.amend(1, 2, 0));
    }

    /** "may have died on a DAY, 0 .. 999" */
    private static void daysAllowed() {
        for (int day : new int[] {0, 1, 998, 999}) {
            Desk clerk = Desk.with(1);
            clerk.estate(0, 5);
            clerk.dies(0, day);
            CHECK.same("order after the day " + day, clerk.order(0), 5);
            CHECK.same("settled on the day " + day, clerk.settle(), 1);
            CHECK.paid(clerk, 0, NONE, 5);
        }
    }

    /** "IllegalArgumentException: day is not 0 .. 999." */
    private static void daysRefused() {
        int[] days = {-1, 1000, -2, 1001, Integer.MIN_VALUE, Integer.MAX_VALUE};
        for (int day : days) {
            Desk clerk = Desk.parentOf(1);
            clerk.dies(1, 999);
            CHECK.argumentAlone("the day " + day, clerk, () -> clerk.dies(0, day));
            CHECK.refusedState("who did not die has no heirs", () -> clerk.heirs(0));
            clerk.dies(0, 998);
            CHECK.share(clerk, 0, 1, 1, 1);
            CHECK.argumentAlone("the day " + day + " of one who died", clerk, () -> clerk.dies(1, day));
        }
    }

    /** "an ESTATE, 0 .. 1000000 cents of its own, at first 0" */
    private static void estatesAllowed() {
        Desk clerk = Desk.with(1);
        clerk.dies(0, 0);
        clerk.settle();
        CHECK.same("at first", clerk.total(0), 0);
        for (int cents : new int[] {0, MOST, 1, MOST - 1, 0}) {
            clerk.estate(0, cents);
            clerk.settle();
            CHECK.same("an estate of " + cents, clerk.total(0), cents);
        }
    }

    /** "IllegalArgumentException: cents is not 0 .. 1000000." */
    private static void estatesRefused() {
        Desk clerk = Desk.with(2);
        clerk.estate(0, 8);
        clerk.estate(1, MOST);
        clerk.dies(0, 0);
        CHECK.argumentAlone("an estate of -1", clerk, () -> clerk.estate(0, -1));
        CHECK.argumentAlone("a living one's estate of -1", clerk, () -> clerk.estate(1, -1));
        for (int cents : BEYOND_CENTS) {
            CHECK.argumentAlone("an estate of " + cents, clerk, () -> clerk.estate(0, cents));
            CHECK.argumentAlone("a living one's estate of " + cents, clerk, () -> clerk.estate(1, cents));
        }
        clerk.dies(1, 0);
        clerk.settle();
        CHECK.same("the estate as before", clerk.total(0), 8);
        CHECK.same("the greatest as before", clerk.total(1), MOST);
    }

    /** "or cents not 1 .. 1000000" */
    private static void oneGiftAllowed() {
        for (int cents : new int[] {1, 2, MOST - 1, MOST}) {
            Desk clerk = Desk.parentOf(1);
            CHECK.same("a gift of " + cents, clerk.gift(1, 0, cents), cents);
        }
    }

    private static void oneGiftRefused() {
        Desk none = Desk.parentOf(1);
        Desk some = Desk.parentOf(1);
        Desk full = Desk.parentOf(1);
        some.gift(1, 0, 3);
        full.gift(1, 0, MOST);
        for (Desk clerk : new Desk[] {none, some, full}) {
            CHECK.argumentAlone("a gift of 0", clerk, () -> clerk.gift(1, 0, 0));
            CHECK.argumentAlone("a gift of -1", clerk, () -> clerk.gift(1, 0, -1));
            for (int cents : BEYOND_CENTS) {
                CHECK.argumentAlone("a gift of " + cents, clerk, () -> clerk.gift(1, 0, cents));
            }
        }
        CHECK.same("none was added", none.gift(1, 0, 1), 1);
        CHECK.same("none was added to some", some.gift(1, 0, 1), 4);
    }

    /** "GIFTS from a parent, 0 .. 1000000 cents in all, at first 0" */
    private static void allGiftsAllowed() {
        Desk clerk = Desk.parentOf(3);
        CHECK.same("one cent", clerk.gift(1, 0, 1), 1);
        CHECK.same("all but one", clerk.gift(1, 0, MOST - 2), MOST - 1);
        CHECK.same("all", clerk.gift(1, 0, 1), MOST);
        CHECK.same("half", clerk.gift(2, 0, MOST / 2), MOST / 2);
        CHECK.same("the other half", clerk.gift(2, 0, MOST / 2), MOST);
        CHECK.same("one", clerk.gift(3, 0, 1), 1);
        CHECK.same("one, and all but one", clerk.gift(3, 0, MOST - 1), MOST);
    }

    /** "IllegalStateException: all its gifts would be more than 1000000." */
    private static void allGiftsRefused() {
        Desk clerk = Desk.parentOf(2);
        clerk.gift(1, 0, 1);
        CHECK.stateAlone("the greatest gift behind one cent", clerk, () -> clerk.gift(1, 0, MOST));
        clerk.gift(1, 0, MOST / 2 - 1);
        CHECK.stateAlone("a cent above a half, twice", clerk, () -> clerk.gift(1, 0, MOST / 2 + 1));
        CHECK.same("the refused ones do not count", clerk.gift(1, 0, MOST / 2 - 1), MOST - 1);
        CHECK.stateAlone("two where one is allowed", clerk, () -> clerk.gift(1, 0, 2));
        CHECK.same("the last cent", clerk.gift(1, 0, 1), MOST);
        CHECK.stateAlone("a cent above all", clerk, () -> clerk.gift(1, 0, 1));
        CHECK.stateAlone("all above all", clerk, () -> clerk.gift(1, 0, MOST));
    }

    /** "Answers all its gifts from that one." */
    private static void allGiftsAreOfOneChildFromOneParent() {
        Desk clerk = Desk.with(2);
        clerk.person(0, 1);
        clerk.person(0, 1);
        clerk.person(2, 3);
        CHECK.same("from the first parent", clerk.gift(2, 0, MOST), MOST);
        CHECK.same("from the second parent", clerk.gift(2, 1, 10), 10);
        CHECK.same("to another child", clerk.gift(3, 0, 20), 20);
        CHECK.same("to another child from the second", clerk.gift(3, 1, MOST), MOST);
        CHECK.same("from who got gifts itself", clerk.gift(4, 2, 30), 30);
        CHECK.same("more of the one", clerk.gift(2, 1, 1), 11);
        CHECK.same("more to the other", clerk.gift(3, 0, 1), 21);
        CHECK.stateAlone("full from the first", clerk, () -> clerk.gift(2, 0, 1));
        CHECK.stateAlone("full from the second", clerk, () -> clerk.gift(3, 1, 1));
    }

    /** "Heir i (from 0) of an estate, by rising numbers; NONE when there are fewer." */
    private static void heirsFromZeroOn() {
        Desk clerk = Desk.with(3);
        clerk.childOf(1);
        clerk.marry(2, 1);
        clerk.dies(1, 5);
        CHECK.same("heirs", clerk.heirs(1), 2);
        CHECK.same("heir 0", clerk.heir(1, 0), 2);
        CHECK.same("heir 1", clerk.heir(1, 1), 3);
        int[] none = {2, 3, 19, 20, 21, 31, 32, 33, 64, Integer.MAX_VALUE, -1, -2, -32, Integer.MIN_VALUE};
        for (int i : none) {
            CHECK.questionAlone("heir " + i, clerk, () -> clerk.heir(1, i), NONE);
        }
    }

    private static void heirOfMostHeirs() {
        Desk clerk = Desk.parentOf(19);
        clerk.dies(0, 5);
        CHECK.same("heirs", clerk.heirs(0), 19);
        for (int i = 0; i < 19; i++) {
            CHECK.same("heir " + i, clerk.heir(0, i), i + 1);
            CHECK.share(clerk, 0, i + 1, 1, 19);
        }
        CHECK.same("heir 19", clerk.heir(0, 19), NONE);
        CHECK.same("heir 20", clerk.heir(0, 20), NONE);
    }

    private static void heirOfNone() {
        Desk clerk = Desk.with(2);
        clerk.dies(0, 5);
        CHECK.same("heirs", clerk.heirs(0), 0);
        for (int i : new int[] {0, 1, -1, Integer.MAX_VALUE, Integer.MIN_VALUE}) {
            CHECK.same("heir " + i + " of none", clerk.heir(0, i), NONE);
        }
    }

    /** "An object is used for at most 512 calls after it has been made" */
    private static void theLastCall() {
        CHECK.same("the 512th: person", afterAllButOne().person(0, 1), 4);
        CHECK.same("the 512th: divorce", afterAllButOne().divorce(1), true);
        CHECK.same("the 512th: spouse", afterAllButOne().spouse(2), 1);
        CHECK.same("the 512th: exclude", afterAllButOne().exclude(1, 2, true), true);
        CHECK.same("the 512th: gift", afterAllButOne().gift(1, 0, 7), 503 + 7);
        CHECK.same("the 512th: heirs", afterAllButOne().heirs(3), 1);
        CHECK.same("the 512th: heir", afterAllButOne().heir(3, 0), 0);
        CHECK.share(afterAllButOne(), 3, 0, 1, 1);
        CHECK.same("the 512th: order", afterAllButOne().order(3), 1);
        CHECK.same("the 512th: stem", afterAllButOne().stem(3, 0), 0);
        CHECK.same("the 512th: settle", afterAllButOne().settle(), 1);
        CHECK.paid(afterAllButOne(), 3, 0, 60);
        CHECK.same("the 512th: total", afterAllButOne().total(3), 60);
        CHECK.same("the 512th: got", afterAllButOne().got(0), 60);
        CHECK.refusedArgument("the 512th: amend", () -> afterAllButOne().amend(1, 1, NONE));
        CHECK.refusedState("the 512th: marry", () -> afterAllButOne().marry(0, 1));
        CHECK.refusedState("the 512th: dies", () -> afterAllButOne().dies(3, 9));
        CHECK.refusedArgument("the 512th: estate", () -> afterAllButOne().estate(3, -1));
    }

    /** The small family, and 0 made 1 a gift of a cent 503 times. */
    private static Desk afterAllButOne() {
        Desk clerk = smallFamily();
        while (clerk.callsMade() < Desk.MOST_CALLS - 1) {
            clerk.gift(1, 0, 1);
        }
        return clerk;
    }

    /** 1 and 3 are children of 0, 3 died, 1 and 2 are married: 8 calls. */
    private static Desk smallFamily() {
        Desk clerk = Desk.parentOf(1);
        clerk.person(NONE, NONE);
        clerk.childOf(0);
        clerk.marry(1, 2);
        clerk.estate(3, 60);
        clerk.dies(3, 4);
        clerk.settle();
        return clerk;
    }

    private static boolean hasCalls(Desk clerk, int number) {
        return clerk.callsMade() + number <= Desk.MOST_CALLS;
    }

    /** 512 calls, nearly all of one kind: what a kind of call needs does not run out. */
    private static void allCallsOfOneKind() {
        Desk settled = smallFamily();
        while (hasCalls(settled, 1)) {
            CHECK.same("settle again and again", settled.settle(), 1);
        }
        Desk wed = smallFamily();
        while (hasCalls(wed, 3)) {
            CHECK.same("divorce again and again", wed.divorce(2), true);
            wed.marry(2, 1);
            CHECK.same("spouse again and again", wed.spouse(1), 2);
        }
        Desk excluded = smallFamily();
        while (hasCalls(excluded, 3)) {
            CHECK.same("exclude again and again", excluded.exclude(0, 3, true), true);
            CHECK.same("exclude no longer again and again", excluded.exclude(0, 3, false), true);
            CHECK.same("heirs again and again", excluded.heirs(3), 1);
        }
        Desk amended = smallFamily();
        while (hasCalls(amended, 4)) {
            amended.amend(3, NONE, 2);
            CHECK.same("another parent again and again", amended.heir(3, 0), 2);
            amended.amend(3, 0, 2);
            CHECK.same("both parents again and again", amended.stem(3, 2), 2);
        }
        Desk estates = smallFamily();
        while (hasCalls(estates, 3)) {
            int cents = estates.callsMade();
            estates.estate(3, cents);
            estates.settle();
            CHECK.same("estates again and again", estates.total(3), cents);
        }
        Desk refused = smallFamily();
        while (hasCalls(refused, 4)) {
            CHECK.refusedArgument("refused again and again", () -> refused.person(4, NONE));
            CHECK.refusedState("refused again and again", () -> refused.dies(3, 9));
            CHECK.same("order again and again", refused.order(3), 1);
            CHECK.share(refused, 3, 0, 1, 1);
        }
    }
}
