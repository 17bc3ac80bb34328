/**
 * "Terms", TO SETTLE, and promises 16 to 19: the days in turn, and what stands when it was settled
 * last; a test quotes the sentence that it holds.
 */
public final class DaysTest {
    private static final int NONE = SuccessionClerk.NONE;
    private static final int MOST = 1000000;
    private static final Check CHECK = new Check();

    public static void main(String[] args) {
        fromTheEarliestDayOn();
        daysNextToEachOther();
        upAndDownTheKin();
        theSameDay();
        totalsAreOwnAndPaid();
        wholeCentsAreHandedOn();
        theTownKeepsAll();
        settledNobody();
        settledAll();
        settledAnew();
        settledBeforeCountsNoMore();
        paidBeforeSettling();
        paidFromThisEstateToThisPerson();
        paidToTheTown();
        paidAsSettledLast();
        totalOfThoseNotSettled();
        enteredLater();
        gotFromAllEstates();
        gotByTheTown();
        CHECK.end();
    }

    /** A chain of parents and children, each with so many cents. */
    private static Desk chain(int persons, int cents) {
        Desk clerk = new Desk();
        for (int who = 0; who < persons; who++) {
            clerk.childOf(who - 1);
            clerk.estate(who, cents);
        }
        return clerk;
    }

    /** "for each day on which somebody died, from the earliest on": in whatever turn it was told. */
    private static void fromTheEarliestDayOn() {
        int[][] told = {{0, 1, 2}, {2, 1, 0}, {1, 0, 2}, {1, 2, 0}, {2, 0, 1}, {0, 2, 1}};
        for (int[] turn : told) {
            Desk clerk = chain(4, 10);
            for (int who : turn) {
                clerk.dies(who, 100 * who);
            }
            CHECK.same("settle", clerk.settle(), 3);
            CHECK.same("total of 0", clerk.total(0), 10);
            CHECK.same("total of 1", clerk.total(1), 20);
            CHECK.same("total of 2", clerk.total(2), 30);
            CHECK.same("got by 3", clerk.got(3), 30);
        }
    }

    private static void daysNextToEachOther() {
        int[][] days = {{0, 1}, {998, 999}, {0, 999}, {9, 10}, {99, 100}};
        for (int[] pair : days) {
            Desk clerk = chain(3, 10);
            clerk.dies(1, pair[1]);
            clerk.dies(0, pair[0]);
            clerk.settle();
            CHECK.paid(clerk, 0, 1, 10);
            CHECK.same("total of the later", clerk.total(1), 20);
            CHECK.paid(clerk, 1, 2, 20);
            Desk reversed = chain(3, 10);
            reversed.dies(1, pair[0]);
            reversed.dies(0, pair[1]);
            reversed.settle();
            CHECK.paid(reversed, 0, 1, 0);
            CHECK.paid(reversed, 0, 2, 10);
            CHECK.same("total of the earlier", reversed.total(1), 10);
            CHECK.same("got from both", reversed.got(2), 20);
        }
    }

    /** From a child to its parent, and from that one to another child. */
    private static void upAndDownTheKin() {
        Desk clerk = Desk.parentOf(2);
        clerk.childOf(2);
        clerk.person(NONE, NONE);
        clerk.marry(3, 4);
        clerk.estate(1, 40);
        clerk.estate(0, 2);
        clerk.dies(1, 1);
        clerk.dies(0, 2);
        clerk.dies(2, 3);
        clerk.dies(3, 4);
        CHECK.same("settle", clerk.settle(), 4);
        CHECK.paid(clerk, 1, 0, 40);
        CHECK.paid(clerk, 0, 2, 42);
        CHECK.paid(clerk, 2, 3, 42);
        CHECK.paid(clerk, 3, 4, 42);
        CHECK.same("total of the last", clerk.total(3), 42);
    }

    /** "all that it was paid from estates of earlier days": not from those of its own day. */
    private static void theSameDay() {
        for (int day : new int[] {0, 500, 999}) {
            Desk clerk = chain(4, 10);
            for (int who = 0; who < 3; who++) {
                clerk.dies(who, day);
            }
            CHECK.same("settle", clerk.settle(), 3);
            for (int who = 0; who < 3; who++) {
                CHECK.same("total", clerk.total(who), 10);
                CHECK.paid(clerk, who, 3, 10);
                CHECK.same("got", clerk.got(who), 0);
            }
            CHECK.same("got by the last", clerk.got(3), 30);
        }
        Desk couple = Desk.with(2);
        couple.marry(0, 1);
        couple.estate(0, 3);
        couple.estate(1, 4);
        couple.dies(0, 7);
        couple.dies(1, 7);
        couple.settle();
        CHECK.paid(couple, 0, 1, 0);
        CHECK.paid(couple, 1, 0, 0);
        CHECK.same("the town gets both", couple.got(NONE), 7);
    }

    /** "the TOTAL of each one who died that day is its own estate and all that it was paid" */
    private static void totalsAreOwnAndPaid() {
        Desk clerk = Desk.with(3);
        clerk.person(0, 1);
        clerk.marry(3, 2);
        clerk.estate(0, 100);
        clerk.estate(1, 50);
        clerk.estate(2, 7);
        clerk.estate(3, 1);
        clerk.dies(0, 1);
        clerk.dies(1, 2);
        clerk.dies(2, 2);
        CHECK.same("settle", clerk.settle(), 3);
        CHECK.same("got from three", clerk.got(3), 157);
        CHECK.same("who did not die has no total", clerk.total(3), 0);
        clerk.dies(3, 3);
        clerk.settle();
        CHECK.same("its own and what three left", clerk.total(3), 158);
        clerk.estate(3, 0);
        clerk.settle();
        CHECK.same("nothing of its own", clerk.total(3), 157);
        clerk.estate(3, MOST);
        clerk.settle();
        CHECK.same("above 1000000", clerk.total(3), MOST + 157);
    }

    /** What is handed on is what was paid, not what was due. */
    private static void wholeCentsAreHandedOn() {
        Desk clerk = Desk.parentOf(3);
        for (int child = 1; child <= 3; child++) {
            clerk.childOf(child);
            clerk.dies(child, 10);
        }
        clerk.dies(0, 5);
        clerk.estate(0, 2);
        clerk.settle();
        CHECK.same("total of 1", clerk.total(1), 1);
        CHECK.same("total of 2", clerk.total(2), 1);
        CHECK.same("total of 3", clerk.total(3), 0);
        CHECK.paid(clerk, 1, 4, 1);
        CHECK.paid(clerk, 2, 5, 1);
        CHECK.paid(clerk, 3, 6, 0);
    }

    private static void theTownKeepsAll() {
        Desk clerk = chain(2, 10);
        clerk.dies(0, 1);
        clerk.dies(1, 2);
        clerk.settle();
        CHECK.paid(clerk, 0, 1, 10);
        CHECK.paid(clerk, 0, NONE, 0);
        CHECK.paid(clerk, 1, NONE, 20);
        CHECK.same("the town", clerk.got(NONE), 20);
    }

    /** Promise 16. "Answers how many estates were settled." */
    private static void settledNobody() {
        CHECK.same("of a new object", new Desk().settle(), 0);
        CHECK.same("of the living", Desk.with(20).settle(), 0);
        Desk clerk = Desk.with(2);
        clerk.estate(0, 5);
        CHECK.same("of one with an estate who did not die", clerk.settle(), 0);
        CHECK.same("its total", clerk.total(0), 0);
        CHECK.same("the town", clerk.got(NONE), 0);
        clerk.dies(1, 0);
        CHECK.same("of one without an estate", clerk.settle(), 1);
    }

    private static void settledAll() {
        Desk oneDay = Desk.with(20);
        Desk manyDays = chain(20, MOST);
        for (int who = 0; who < 20; who++) {
            oneDay.estate(who, who);
            oneDay.dies(who, 999);
            manyDays.dies(who, who == 19 ? 999 : who);
        }
        CHECK.same("all on one day", oneDay.settle(), 20);
        CHECK.same("the town", oneDay.got(NONE), 190);
        CHECK.same("all on many days", manyDays.settle(), 20);
        for (int who = 0; who < 20; who++) {
            CHECK.same("total of " + who, manyDays.total(who), (who + 1) * MOST);
            CHECK.same("total on one day of " + who, oneDay.total(who), who);
        }
        CHECK.paid(manyDays, 19, NONE, 20 * MOST);
    }

    /** "Settles all deaths anew" */
    private static void settledAnew() {
        Desk clerk = chain(3, 10);
        clerk.dies(0, 5);
        for (int time = 0; time < 3; time++) {
            CHECK.same("settle", clerk.settle(), 1);
            CHECK.paid(clerk, 0, 1, 10);
            CHECK.same("got", clerk.got(1), 10);
            CHECK.same("total", clerk.total(0), 10);
        }
        clerk.dies(1, 4);
        for (int time = 0; time < 3; time++) {
            CHECK.same("settle two", clerk.settle(), 2);
            CHECK.paid(clerk, 0, 2, 10);
            CHECK.same("got from two", clerk.got(2), 20);
        }
    }

    /** "(what was settled before counts no more)" */
    private static void settledBeforeCountsNoMore() {
        Desk clerk = chain(3, 10);
        clerk.dies(0, 5);
        clerk.settle();
        clerk.dies(1, 4);
        clerk.settle();
        CHECK.paid(clerk, 0, 1, 0);
        CHECK.same("got before, not now", clerk.got(1), 0);
        CHECK.same("nor is it in its total", clerk.total(1), 10);
        clerk.exclude(2, 0, true);
        clerk.exclude(2, 1, true);
        clerk.settle();
        CHECK.same("the town now", clerk.got(NONE), 20);
        CHECK.same("not its heir", clerk.got(2), 0);
        CHECK.paid(clerk, 1, 2, 0);
        clerk.exclude(2, 1, false);
        clerk.settle();
        CHECK.paid(clerk, 1, NONE, 0);
        CHECK.paid(clerk, 0, NONE, 10);
        CHECK.same("the town's other half", clerk.got(NONE), 10);
        clerk.estate(0, 0);
        clerk.estate(1, 0);
        CHECK.same("settle nothing", clerk.settle(), 2);
        CHECK.same("the town gets nothing", clerk.got(NONE), 0);
        CHECK.same("nor does its heir", clerk.got(2), 0);
        CHECK.same("nothing in all", clerk.total(1), 0);
    }

    /** Promise 17. "0 when it was not settled." */
    private static void paidBeforeSettling() {
        Desk clerk = chain(3, 10);
        clerk.dies(0, 5);
        for (int of = 0; of < 3; of++) {
            for (int to = NONE; to < 3; to++) {
                CHECK.paid(clerk, of, to, 0);
            }
            CHECK.same("total", clerk.total(of), 0);
            CHECK.same("got", clerk.got(of), 0);
        }
        CHECK.same("the town got", clerk.got(NONE), 0);
        clerk.settle();
        clerk.dies(1, 6);
        for (int to = NONE; to < 3; to++) {
            CHECK.paid(clerk, 1, to, 0);
            CHECK.paid(clerk, 2, to, 0);
        }
        CHECK.paid(clerk, 0, 1, 10);
    }

    /** "What a person was paid from an estate when it was settled last, in cents" */
    private static void paidFromThisEstateToThisPerson() {
        Desk clerk = Desk.with(2);
        clerk.person(0, 1);
        clerk.person(0, NONE);
        clerk.estate(0, 100);
        clerk.estate(1, 30);
        clerk.dies(0, 5);
        clerk.dies(1, 5);
        CHECK.settledTo("from 0", clerk, 0, 0, 0, 50, 50);
        CHECK.settledTo("from 1", clerk, 1, 0, 0, 30, 0);
        CHECK.settledTo("from one who did not die", clerk, 2, 0, 0, 0, 0);
    }

    /** "what the town was paid for NONE" */
    private static void paidToTheTown() {
        Desk clerk = Desk.with(20);
        clerk.amend(19, 18, NONE);
        clerk.estate(18, 5);
        clerk.estate(0, 8);
        clerk.dies(18, 5);
        clerk.dies(0, 6);
        clerk.settle();
        CHECK.paid(clerk, 18, NONE, 0);
        CHECK.paid(clerk, 18, 19, 5);
        CHECK.paid(clerk, 0, NONE, 8);
        CHECK.paid(clerk, 0, 19, 0);
        CHECK.paid(clerk, 19, NONE, 0);
    }

    /** Nothing that comes later changes what was paid when it was settled last. */
    private static void paidAsSettledLast() {
        Desk clerk = Desk.with(2);
        clerk.person(0, NONE);
        clerk.person(0, NONE);
        clerk.estate(0, 100);
        clerk.marry(0, 1);
        clerk.dies(0, 5);
        clerk.settle();
        clerk.gift(2, 0, 10);
        clerk.estate(0, 7);
        clerk.exclude(3, 0, true);
        clerk.amend(2, 1, NONE);
        clerk.dies(1, 4);
        clerk.marry(2, 3);
        clerk.divorce(3);
        clerk.person(0, NONE);
        long[] due = {0, 25, 38, 37, 0};
        for (int who = 0; who < due.length; who++) {
            CHECK.paid(clerk, 0, who, due[who]);
            CHECK.same("got", clerk.got(who), due[who]);
            CHECK.same("total", clerk.total(who), who == 0 ? 100 : 0);
        }
        CHECK.same("settle", clerk.settle(), 2);
        CHECK.settledTo("and then it does", clerk, 0, 0, 0, 0, 0, 7);
    }

    /** Promise 18. "of a person who was not among them ... 0" */
    private static void totalOfThoseNotSettled() {
        Desk clerk = chain(3, 10);
        CHECK.same("before all", clerk.total(0), 0);
        clerk.dies(0, 5);
        CHECK.same("not yet", clerk.total(0), 0);
        clerk.settle();
        CHECK.same("now", clerk.total(0), 10);
        CHECK.same("the living", clerk.total(1), 0);
        clerk.dies(1, 6);
        CHECK.same("dead, but not settled", clerk.total(1), 0);
        clerk.settle();
        CHECK.same("dead and settled", clerk.total(1), 20);
        CHECK.same("the last", clerk.total(2), 0);
    }

    /** "or for all who were entered later, 0" */
    private static void enteredLater() {
        Desk clerk = chain(1, 10);
        clerk.dies(0, 5);
        clerk.settle();
        for (int who = 1; who < 20; who++) {
            clerk.childOf(who - 1);
        }
        for (int who : new int[] {1, 19}) {
            clerk.estate(who, 4);
            CHECK.same("total", clerk.total(who), 0);
            CHECK.same("got", clerk.got(who), 0);
            CHECK.paid(clerk, 0, who, 0);
            CHECK.paid(clerk, who, 0, 0);
            CHECK.paid(clerk, who, NONE, 0);
            clerk.dies(who, 6);
            CHECK.same("total of one who died since", clerk.total(who), 0);
            CHECK.paid(clerk, who, NONE, 0);
        }
        CHECK.paid(clerk, 0, NONE, 10);
        CHECK.same("the town keeps it", clerk.got(NONE), 10);
        clerk.settle();
        CHECK.paid(clerk, 0, 1, 10);
        CHECK.same("total of the child", clerk.total(1), 14);
    }

    /** Promise 19. "All that a person was paid from estates when it was settled last (0 before)" */
    private static void gotFromAllEstates() {
        Desk clerk = Desk.with(19);
        clerk.person(17, 18);
        for (int who = 0; who < 19; who++) {
            clerk.estate(who, who + 1);
        }
        clerk.marry(19, 0);
        CHECK.same("before", clerk.got(19), 0);
        clerk.dies(17, 1);
        clerk.dies(18, 2);
        clerk.dies(0, 3);
        CHECK.same("before it is settled", clerk.got(19), 0);
        clerk.settle();
        CHECK.same("from parents and a spouse", clerk.got(19), 18 + 19 + 1);
        CHECK.same("who got nothing", clerk.got(0), 0);
        clerk.dies(19, 4);
        clerk.settle();
        CHECK.same("though it died since", clerk.got(19), 38);
        CHECK.same("and left it all", clerk.got(NONE), 38);
    }

    /** "the town for NONE" */
    private static void gotByTheTown() {
        Desk clerk = Desk.with(20);
        CHECK.same("before", clerk.got(NONE), 0);
        long sum = 0;
        for (int who = 0; who < 20; who++) {
            clerk.estate(who, MOST - who);
            clerk.dies(who, 999 - who);
            clerk.settle();
            sum += MOST - who;
            CHECK.same("got by the town", clerk.got(NONE), sum);
        }
    }
}
