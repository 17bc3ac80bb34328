import java.util.function.BooleanSupplier;
import java.util.function.LongSupplier;

/** Counts the answers of a test that are not as due, and tells them. */
final class Check {
    private int wrong;
    private Desk watched;
    private String watchedAnswers;

    void same(String what, long got, long due) {
        if (got != due) {
            fail(what + " answered " + got + ", due is " + due);
        }
    }

    void same(String what, boolean got, boolean due) {
        if (got != due) {
            fail(what + " answered " + got + ", due is " + due);
        }
    }

    void same(String what, String got, String due) {
        if (!got.equals(due)) {
            fail(what + " is " + got + ", due is " + due);
        }
    }

    void share(Desk clerk, int of, int who, long numerator, long denominator) {
        same("share(" + of + ", " + who + ")", told(clerk.share(of, who)), numerator + "/" + denominator);
    }

    void noShare(Desk clerk, int of, int who) {
        same("share(" + of + ", " + who + ")", clerk.share(of, who), 0);
    }

    void paid(Desk clerk, int of, int who, long due) {
        same("paid(" + of + ", " + who + ")", clerk.paid(of, who), due);
    }

    /** Settles anew, and what the persons were paid in turn, from 0 on. */
    void settledTo(String what, Desk clerk, int of, long... due) {
        clerk.settle();
        for (int who = 0; who < due.length; who++) {
            same(what + ": paid(" + of + ", " + who + ")", clerk.paid(of, who), due[who]);
        }
    }

    /** Notes what later calls would answer, for unchanged. */
    void watch(Desk clerk) {
        watched = clerk;
        watchedAnswers = Later.answers(clerk);
    }

    void unchanged() {
        unchangedAfter("calls that change nothing");
    }

    void refusedArgument(String what, Runnable call) {
        refused(what, call, "IllegalArgumentException");
    }

    void refusedState(String what, Runnable call) {
        refused(what, call, "IllegalStateException");
    }

    /** One refused call alone, and that nothing changed. */
    void argumentAlone(String what, Desk clerk, Runnable call) {
        watch(clerk);
        refusedArgument(what, call);
        unchangedAfter(what);
    }

    /** One refused call alone, and that nothing changed. */
    void stateAlone(String what, Desk clerk, Runnable call) {
        watch(clerk);
        refusedState(what, call);
        unchangedAfter(what);
    }

    /** One call alone that answers false, and that nothing changed. */
    void falseAlone(String what, Desk clerk, BooleanSupplier call) {
        watch(clerk);
        same(what, call.getAsBoolean(), false);
        unchangedAfter(what);
    }

    /** One question alone, its answer, and that nothing changed. */
    void questionAlone(String what, Desk clerk, LongSupplier call, long due) {
        watch(clerk);
        same(what, call.getAsLong(), due);
        unchangedAfter(what);
    }

    void fail(String what) {
        wrong++;
        System.out.println(what);
    }

    void end() {
        System.out.println(wrong == 0 ? "all as due" : wrong + " not as due");
        if (wrong != 0) {
            System.exit(1);
        }
    }

    static long fraction(long numerator, long denominator) {
        return numerator << 32 | denominator;
    }

    private static String told(long share) {
        return (share >>> 32) + "/" + (share & 0xffffffffL);
    }

    private void refused(String what, Runnable call, String due) {
        String outcome = Later.outcomeOf(() -> {
            call.run();
            return 0;
        });
        same(what, outcome.equals("0") ? "not refused" : outcome, due);
    }

    private void unchangedAfter(String what) {
        String answers = Later.answers(watched);
        if (answers.equals(watchedAnswers)) {
            return;
        }
        String[] got = answers.split("\n");
        String[] due = watchedAnswers.split("\n");
        int line = 0;
        while (line < got.length && line < due.length && got[line].equals(due[line])) {
            line++;
        }
        fail("after " + what + " later calls answer '" + (line < got.length ? got[line] : "nothing more")
            + "', due is '" + (line < due.length ? due[line] : "nothing more") + "'");
    }
}
