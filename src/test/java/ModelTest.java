import java.util.Random;
import java.util.function.LongSupplier;

/** Long runs of calls, right and wrong ones, on all promises: the class against PlainClerk. */
public final class ModelTest {
    private static final Check CHECK = new Check();
    private static final int CALLS = 512;
    private static final int RUNS = 1500;

    private final Random random;
    private final SuccessionClerk clerk = new SuccessionClerk();
    private final PlainClerk plain = new PlainClerk();
    private final StringBuilder told = new StringBuilder();
    private final int reach;
    private final int days;
    private final int cents;
    private final boolean close;
    private int count;
    private int calls;

    private ModelTest(int seed) {
        random = new Random(seed);
        reach = 2 + random.nextInt(19);
        days = new int[] {3, 10, 1000}[random.nextInt(3)];
        cents = new int[] {20, 1000, 1000000}[random.nextInt(3)];
        close = random.nextBoolean();
    }

    public static void main(String[] args) {
        for (int seed = 0; seed < RUNS; seed++) {
            if (!new ModelTest(seed).run()) {
                CHECK.fail("in the run with the seed " + seed);
                break;
            }
        }
        CHECK.end();
    }

    private boolean run() {
        int entered = random.nextInt(reach + 1);
        for (int round = 0; round < CALLS && calls < CALLS; round++) {
            if (!(round < entered ? enter() : anyCall())) {
                System.out.println(told);
                return false;
            }
        }
        return true;
    }

    private boolean enter() {
        int first = parent();
        int second = parent();
        return same("person", first, second, 0, () -> clerk.person(first, second), () -> plain.person(first, second));
    }

    /** Near relations make stems and lines that meet. */
    private int parent() {
        if (count == 0 || random.nextInt(5) == 0) {
            return -1;
        }
        return close ? Math.max(0, count - 1 - random.nextInt(4)) : random.nextInt(count);
    }

    private int who() {
        return random.nextInt(40) == 0 ? random.nextInt(24) - 2 : random.nextInt(Math.max(1, count));
    }

    private boolean anyCall() {
        int a = who();
        int b = who();
        int kind = random.nextInt(24);
        if (kind < 9) {
            return change(kind, a, b);
        }
        switch (kind) {
            case 9: return same("spouse", a, 0, 0, () -> clerk.spouse(a), () -> plain.spouse(a));
            case 10: return same("heirs", a, 0, 0, () -> clerk.heirs(a), () -> plain.heirs(a));
            case 11: {
                int i = random.nextInt(8) - 1;
                return same("heir", a, i, 0, () -> clerk.heir(a, i), () -> plain.heir(a, i));
            }
            case 12:
            case 13:
            case 14: return same("share", a, b, 0, () -> clerk.share(a, b), () -> plain.share(a, b));
            case 15: return same("order", a, 0, 0, () -> clerk.order(a), () -> plain.order(a));
            case 16:
            case 17: return same("stem", a, b, 0, () -> clerk.stem(a, b), () -> plain.stem(a, b));
            case 18: return same("settle", 0, 0, 0, clerk::settle, plain::settle) && samePayments();
            case 19:
            case 20: {
                int to = random.nextInt(6) == 0 ? -1 : b;
                return same("paid", a, to, 0, () -> clerk.paid(a, to), () -> plain.paid(a, to));
            }
            case 21: return same("total", a, 0, 0, () -> clerk.total(a), () -> plain.total(a));
            default: {
                int to = random.nextInt(6) == 0 ? -1 : a;
                return same("got", to, 0, 0, () -> clerk.got(to), () -> plain.got(to));
            }
        }
    }

    private boolean change(int kind, int a, int b) {
        switch (kind) {
            case 0: return count < reach || random.nextInt(10) == 0 ? enter() : true;
            case 1: {
                int first = random.nextInt(4) == 0 ? -1 : random.nextInt(Math.max(1, a + 1));
                int second = random.nextInt(4) == 0 ? -1 : random.nextInt(Math.max(1, a + 1));
                return same("amend", a, first, second, () -> none(() -> clerk.amend(a, first, second)),
                    () -> none(() -> plain.amend(a, first, second)));
            }
            case 2: return same("marry", a, b, 0, () -> none(() -> clerk.marry(a, b)), () -> none(() -> plain.marry(a, b)));
            case 3: return same("divorce", a, 0, 0, () -> clerk.divorce(a) ? 1 : 0, () -> plain.divorce(a) ? 1 : 0);
            case 4: {
                int day = random.nextInt(20) == 0 ? random.nextInt(3) * 501 - 1 : random.nextInt(days);
                return same("dies", a, day, 0, () -> none(() -> clerk.dies(a, day)), () -> none(() -> plain.dies(a, day)));
            }
            case 5: {
                boolean is = random.nextInt(3) == 0;
                return same("exclude", a, b, is ? 1 : 0, () -> clerk.exclude(a, b, is) ? 1 : 0,
                    () -> plain.exclude(a, b, is) ? 1 : 0);
            }
            case 6:
            case 7: {
                int sum = amount();
                return same("gift", a, b, sum, () -> clerk.gift(a, b, sum), () -> plain.gift(a, b, sum));
            }
            default: {
                int sum = amount();
                return same("estate", a, sum, 0, () -> none(() -> clerk.estate(a, sum)), () -> none(() -> plain.estate(a, sum)));
            }
        }
    }

    private int amount() {
        return random.nextInt(20) == 0 ? random.nextInt(2) * 1000001 - random.nextInt(2) : random.nextInt(cents + 1);
    }

    private boolean samePayments() {
        int of = who();
        for (int to = -1; to < count && calls < CALLS; to++) {
            int paid = to;
            if (!same("paid", of, to, 0, () -> clerk.paid(of, paid), () -> plain.paid(of, paid))) {
                return false;
            }
        }
        return true;
    }

    private boolean same(String name, int a, int b, int c, LongSupplier real, LongSupplier due) {
        calls++;
        String want = answerOf(due);
        String got = answerOf(real);
        told.append(name).append('(').append(a).append(", ").append(b).append(", ").append(c).append(") ");
        told.append(got).append('\n');
        if (name.equals("person") && !want.startsWith("throws")) {
            count++;
        }
        CHECK.same(name + "(" + a + ", " + b + ", " + c + ")", got, want);
        return got.equals(want);
    }

    private static String answerOf(LongSupplier call) {
        try {
            return String.valueOf(call.getAsLong());
        } catch (RuntimeException e) {
            return "throws." + e.getClass().getSimpleName();
        }
    }

    private static long none(Runnable call) {
        call.run();
        return 0;
    }
}
