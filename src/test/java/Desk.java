import java.util.ArrayList;
import java.util.List;

/**
 * A clerk that remembers the calls made on it, so that a new object can be brought to the same
 * state. It ends the test at a 513th call, as the document promises nothing behind the 512th.
 */
final class Desk {
    static final int MOST_CALLS = 512;
    private static final int NONE = SuccessionClerk.NONE;

    private interface Call {
        long on(SuccessionClerk clerk);
    }

    private final SuccessionClerk clerk = new SuccessionClerk();
    private final List<Call> calls = new ArrayList<>();

    /** A new clerk with so many persons whose parents are not known. */
    static Desk with(int persons) {
        Desk desk = new Desk();
        for (int i = 0; i < persons; i++) {
            desk.person(NONE, NONE);
        }
        return desk;
    }

    /** A new clerk with a person 0 and so many children of it. */
    static Desk parentOf(int children) {
        Desk desk = with(1);
        for (int i = 0; i < children; i++) {
            desk.childOf(0);
        }
        return desk;
    }

    /** Another object on which the same calls were made. */
    Desk again() {
        Desk other = new Desk();
        for (Call call : calls) {
            try {
                other.make(call);
            } catch (RuntimeException e) {
                // Refused before, and refused again: refusals are part of what was done.
                continue;
            }
        }
        return other;
    }

    int callsMade() {
        return calls.size();
    }

    private long make(Call call) {
        if (calls.size() == MOST_CALLS) {
            throw new AssertionError("a test makes more than 512 calls on one object");
        }
        calls.add(call);
        return call.on(clerk);
    }

    int childOf(int parent) {
        return person(parent, NONE);
    }

    int person(int first, int second) {
        return (int) make(c -> c.person(first, second));
    }

    void amend(int person, int first, int second) {
        make(c -> {
            c.amend(person, first, second);
            return 0;
        });
    }

    void marry(int a, int b) {
        make(c -> {
            c.marry(a, b);
            return 0;
        });
    }

    boolean divorce(int person) {
        return make(c -> c.divorce(person) ? 1 : 0) == 1;
    }

    int spouse(int person) {
        return (int) make(c -> c.spouse(person));
    }

    void dies(int person, int day) {
        make(c -> {
            c.dies(person, day);
            return 0;
        });
    }

    boolean exclude(int person, int from, boolean is) {
        return make(c -> c.exclude(person, from, is) ? 1 : 0) == 1;
    }

    int gift(int child, int from, int cents) {
        return (int) make(c -> c.gift(child, from, cents));
    }

    void estate(int person, int cents) {
        make(c -> {
            c.estate(person, cents);
            return 0;
        });
    }

    int heirs(int of) {
        return (int) make(c -> c.heirs(of));
    }

    int heir(int of, int i) {
        return (int) make(c -> c.heir(of, i));
    }

    long share(int of, int person) {
        return make(c -> c.share(of, person));
    }

    int order(int of) {
        return (int) make(c -> c.order(of));
    }

    int stem(int of, int person) {
        return (int) make(c -> c.stem(of, person));
    }

    int settle() {
        return (int) make(c -> c.settle());
    }

    long paid(int of, int person) {
        return make(c -> c.paid(of, person));
    }

    long total(int person) {
        return make(c -> c.total(person));
    }

    long got(int person) {
        return make(c -> c.got(person));
    }
}
