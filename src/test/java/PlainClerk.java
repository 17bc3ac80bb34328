import java.math.BigInteger;
import java.util.ArrayList;
import java.util.HashMap;
import java.util.HashSet;
import java.util.List;
import java.util.Map;
import java.util.Set;
import java.util.TreeMap;
import java.util.TreeSet;

/**
 * The document's words once more, in their plainest form: by recursion over stems and lines and
 * with fractions without a limit. The class is held against it by ModelTest.
 */
final class PlainClerk {
    private static final int NONE = -1;

    private static final class Person {
        int first;
        int second;
        int spouse = NONE;
        int day = NONE;
        long estate;
        final Set<Integer> excluded = new HashSet<>();
        final Map<Integer, Integer> giftsFrom = new HashMap<>();
    }

    private record Fraction(BigInteger above, BigInteger below) {
        static final Fraction ZERO = of(0, 1);

        static Fraction of(long above, long below) {
            return of(BigInteger.valueOf(above), BigInteger.valueOf(below));
        }

        static Fraction of(BigInteger above, BigInteger below) {
            BigInteger divisor = above.gcd(below);
            return new Fraction(above.divide(divisor), below.divide(divisor));
        }

        Fraction plus(Fraction other) {
            return of(above.multiply(other.below).add(other.above.multiply(below)), below.multiply(other.below));
        }

        Fraction minus(Fraction other) {
            return plus(of(other.above.negate(), other.below));
        }

        Fraction times(long above, long below) {
            return of(this.above.multiply(BigInteger.valueOf(above)), this.below.multiply(BigInteger.valueOf(below)));
        }

        int compare(Fraction other) {
            return above.multiply(other.below).compareTo(other.above.multiply(below));
        }

        long floor() {
            return above.divide(below).longValueExact();
        }
    }

    private final List<Person> persons = new ArrayList<>();
    private final Map<Integer, Map<Integer, Long>> payments = new HashMap<>();
    private final Map<Integer, Long> totals = new HashMap<>();

    private void known(int who) {
        if (who < 0 || who >= persons.size()) {
            throw new IllegalArgumentException();
        }
    }

    private void knownOrNone(int who) {
        if (who != NONE) {
            known(who);
        }
    }

    private Person at(int who) {
        return persons.get(who);
    }

    private boolean dead(int who) {
        return at(who).day != NONE;
    }

    int person(int first, int second) {
        knownOrNone(first);
        knownOrNone(second);
        if (first != NONE && first == second) {
            throw new IllegalArgumentException();
        }
        if (persons.size() == 20) {
            throw new IllegalStateException();
        }
        Person person = new Person();
        person.first = first;
        person.second = second;
        persons.add(person);
        return persons.size() - 1;
    }

    void amend(int who, int first, int second) {
        known(who);
        knownOrNone(first);
        knownOrNone(second);
        if (first != NONE && first == second || first >= who || second >= who) {
            throw new IllegalArgumentException();
        }
        at(who).first = first;
        at(who).second = second;
    }

    void marry(int a, int b) {
        known(a);
        known(b);
        if (a == b) {
            throw new IllegalArgumentException();
        }
        for (int who : new int[] {a, b}) {
            if (dead(who) || at(who).spouse != NONE && !dead(at(who).spouse)) {
                throw new IllegalStateException();
            }
        }
        at(a).spouse = b;
        at(b).spouse = a;
    }

    boolean divorce(int who) {
        known(who);
        int other = at(who).spouse;
        if (other == NONE || dead(who) || dead(other)) {
            return false;
        }
        at(who).spouse = NONE;
        at(other).spouse = NONE;
        return true;
    }

    int spouse(int who) {
        known(who);
        return at(who).spouse;
    }

    void dies(int who, int day) {
        known(who);
        if (day < 0 || day > 999) {
            throw new IllegalArgumentException();
        }
        if (dead(who)) {
            throw new IllegalStateException();
        }
        at(who).day = day;
    }

    boolean exclude(int who, int from, boolean is) {
        known(who);
        known(from);
        return is ? at(from).excluded.add(who) : at(from).excluded.remove(who);
    }

    int gift(int child, int from, int cents) {
        known(child);
        known(from);
        if (!children(from).contains(child) || cents < 1 || cents > 1000000) {
            throw new IllegalArgumentException();
        }
        int all = at(child).giftsFrom.getOrDefault(from, 0) + cents;
        if (all > 1000000) {
            throw new IllegalStateException();
        }
        at(child).giftsFrom.put(from, all);
        return all;
    }

    void estate(int who, int cents) {
        known(who);
        if (cents < 0 || cents > 1000000) {
            throw new IllegalArgumentException();
        }
        at(who).estate = cents;
    }

    private List<Integer> children(int of) {
        List<Integer> children = new ArrayList<>();
        for (int who = 0; who < persons.size(); who++) {
            if (at(who).first == of || at(who).second == of) {
                children.add(who);
            }
        }
        return children;
    }

    private boolean left(int who, int of) {
        return who != of && !at(of).excluded.contains(who) && (!dead(who) || at(who).day > at(of).day);
    }

    private Set<Integer> stemHeirs(int who, int of) {
        Set<Integer> heirs = new TreeSet<>();
        if (left(who, of)) {
            heirs.add(who);
        } else {
            for (int child : children(who)) {
                heirs.addAll(stemHeirs(child, of));
            }
        }
        return heirs;
    }

    private List<Integer> stemsWithHeirs(int who, int of) {
        List<Integer> stems = new ArrayList<>(children(who));
        stems.removeIf(child -> stemHeirs(child, of).isEmpty());
        return stems;
    }

    private void takeStem(int who, int of, Fraction part, Map<Integer, Fraction> takes) {
        if (left(who, of)) {
            takes.merge(who, part, Fraction::plus);
            return;
        }
        List<Integer> stems = stemsWithHeirs(who, of);
        for (int child : stems) {
            takeStem(child, of, part.times(1, stems.size()), takes);
        }
    }

    private boolean lineHasHeirs(int who, int height, int of) {
        if (who == NONE) {
            return false;
        }
        return height == 0 ? !stemHeirs(who, of).isEmpty()
            : lineHasHeirs(at(who).first, height - 1, of) || lineHasHeirs(at(who).second, height - 1, of);
    }

    private void takeLine(int who, int height, int of, Fraction part, Map<Integer, Fraction> takes) {
        if (height == 0) {
            takeStem(who, of, part, takes);
            return;
        }
        List<Integer> lines = new ArrayList<>(List.of(at(who).first, at(who).second));
        lines.removeIf(parent -> !lineHasHeirs(parent, height - 1, of));
        for (int parent : lines) {
            takeLine(parent, height - 1, of, part.times(1, lines.size()), takes);
        }
    }

    private boolean orderHasHeirs(int order, int of) {
        return order == 0 ? !stemsWithHeirs(of, of).isEmpty() : lineHasHeirs(of, order, of);
    }

    private boolean spouseLeft(int of) {
        return at(of).spouse != NONE && left(at(of).spouse, of);
    }

    private Fraction spousePart(int of) {
        if (!spouseLeft(of)) {
            return Fraction.ZERO;
        }
        if (orderHasHeirs(0, of)) {
            return Fraction.of(1, 4);
        }
        return orderHasHeirs(1, of) || orderHasHeirs(2, of) ? Fraction.of(1, 2) : Fraction.of(1, 1);
    }

    private int taker(int of) {
        for (int order = 0; order <= 3; order++) {
            if (orderHasHeirs(order, of) && !(order == 3 && spouseLeft(of))) {
                return order;
            }
        }
        return spouseLeft(of) ? 4 : 5;
    }

    private Map<Integer, Fraction> shares(int of) {
        Map<Integer, Fraction> takes = new TreeMap<>();
        Fraction spousePart = spousePart(of);
        if (spouseLeft(of)) {
            takes.put(at(of).spouse, spousePart);
        }
        Fraction rest = Fraction.of(1, 1).minus(spousePart);
        int taker = taker(of);
        if (taker == 0) {
            List<Integer> stems = stemsWithHeirs(of, of);
            for (int child : stems) {
                takeStem(child, of, rest.times(1, stems.size()), takes);
            }
        } else if (taker <= 3) {
            takeLine(of, taker, of, rest, takes);
        }
        return takes;
    }

    private void knownDead(int of) {
        if (!dead(of)) {
            throw new IllegalStateException();
        }
    }

    int heirs(int of) {
        known(of);
        knownDead(of);
        return shares(of).size();
    }

    int heir(int of, int i) {
        known(of);
        knownDead(of);
        List<Integer> heirs = new ArrayList<>(shares(of).keySet());
        return i >= 0 && i < heirs.size() ? heirs.get(i) : NONE;
    }

    long share(int of, int who) {
        known(of);
        known(who);
        knownDead(of);
        Fraction share = shares(of).get(who);
        return share == null ? 0 : (long) share.above.intValueExact() << 32 | share.below.intValueExact();
    }

    int order(int of) {
        known(of);
        knownDead(of);
        return taker(of);
    }

    int stem(int of, int who) {
        known(of);
        known(who);
        knownDead(of);
        int taker = taker(of);
        if (taker > 3) {
            return NONE;
        }
        for (int begin : taker == 0 ? new TreeSet<>(children(of)) : ancestors(of, taker)) {
            if (stemHeirs(begin, of).contains(who)) {
                return begin;
            }
        }
        return NONE;
    }

    private Set<Integer> ancestors(int who, int height) {
        Set<Integer> found = new TreeSet<>();
        if (who == NONE) {
            return found;
        }
        if (height == 0) {
            found.add(who);
            return found;
        }
        found.addAll(ancestors(at(who).first, height - 1));
        found.addAll(ancestors(at(who).second, height - 1));
        return found;
    }

    int settle() {
        payments.clear();
        totals.clear();
        for (int day = 0; day <= 999; day++) {
            for (int of = 0; of < persons.size(); of++) {
                if (at(of).day == day) {
                    totals.put(of, at(of).estate + got(of));
                }
            }
            for (int of = 0; of < persons.size(); of++) {
                if (at(of).day == day) {
                    payments.put(of, taker(of) == 5 ? Map.of(NONE, totals.get(of)) : rounded(dues(of), totals.get(of)));
                }
            }
        }
        return totals.size();
    }

    private Map<Integer, Fraction> dues(int of) {
        long total = totals.get(of);
        Map<Integer, Fraction> dues = new TreeMap<>();
        if (taker(of) != 0) {
            shares(of).forEach((who, share) -> dues.put(who, share.times(total, 1)));
            return dues;
        }
        Fraction spouseDue = spousePart(of).times(total, 1);
        if (spouseLeft(of)) {
            dues.put(at(of).spouse, spouseDue);
        }
        Fraction part = Fraction.of(total, 1).minus(spouseDue);
        List<Integer> in = stemsWithHeirs(of, of);
        // All who are above at once: the document leaves the order open.
        while (in.removeIf(aboveEqualPart(in, of, equalPart(in, of, part))::contains)) {
            continue;
        }
        Fraction equal = equalPart(in, of, part);
        for (int child : in) {
            takeStem(child, of, equal.minus(gifts(child, of)), dues);
        }
        return dues;
    }

    private Fraction gifts(int child, int of) {
        return Fraction.of(at(child).giftsFrom.getOrDefault(of, 0), 1);
    }

    private Fraction equalPart(List<Integer> in, int of, Fraction part) {
        Fraction all = part;
        for (int child : in) {
            all = all.plus(gifts(child, of));
        }
        return all.times(1, in.size());
    }

    private Set<Integer> aboveEqualPart(List<Integer> in, int of, Fraction equal) {
        Set<Integer> above = new HashSet<>(in);
        above.removeIf(child -> gifts(child, of).compare(equal) <= 0);
        return above;
    }

    private static Map<Integer, Long> rounded(Map<Integer, Fraction> dues, long total) {
        Map<Integer, Long> cents = new HashMap<>();
        long unpaid = total;
        for (Map.Entry<Integer, Fraction> due : dues.entrySet()) {
            cents.put(due.getKey(), due.getValue().floor());
            unpaid -= due.getValue().floor();
        }
        List<Integer> byRests = new ArrayList<>(dues.keySet());
        byRests.sort((a, b) -> {
            int order = rest(dues.get(b)).compare(rest(dues.get(a)));
            return order != 0 ? order : Integer.compare(a, b);
        });
        for (int i = 0; i < unpaid; i++) {
            cents.merge(byRests.get(i), 1L, Long::sum);
        }
        return cents;
    }

    private static Fraction rest(Fraction due) {
        return due.minus(Fraction.of(due.floor(), 1));
    }

    long paid(int of, int who) {
        known(of);
        knownOrNone(who);
        return payments.getOrDefault(of, Map.of()).getOrDefault(who, 0L);
    }

    long total(int who) {
        known(who);
        return totals.getOrDefault(who, 0L);
    }

    long got(int who) {
        knownOrNone(who);
        long sum = 0;
        for (Map<Integer, Long> row : payments.values()) {
            sum += row.getOrDefault(who, 0L);
        }
        return sum;
    }
}
