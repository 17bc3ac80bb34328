import java.util.Arrays;

/**
 * A clerk for estates without a will: finds heirs by orders of kin, through those who are gone,
 * with the spouse's part, exact shares, and lifetime gifts brought in; and settles successive
 * deaths to the cent.
 */
public final class SuccessionClerk {
    public static final int NONE = -1;

    private static final int MOST_PERSONS = 20;
    private static final int LAST_DAY = 999;
    private static final int MOST_CENTS = 1000000;
    private static final int HIGHEST_ORDER = 3;
    private static final int SPOUSE_ALONE = 4;
    private static final int TOWN_ALONE = 5;
    /** The town's place in the rows of payments, behind all persons. */
    private static final int TOWN = MOST_PERSONS;

    private final Family family;
    private final Survey survey;
    private final Division division;
    private final Ledger ledger;

    public SuccessionClerk() {
        family = new Family();
        survey = new Survey(family);
        division = new Division(family, survey);
        ledger = new Ledger(family, survey, division);
    }

    public int person(int first, int second) throws IllegalArgumentException, IllegalStateException {
        requireParents(first, second, family.count);
        if (family.count >= MOST_PERSONS) {
            throw new IllegalStateException("there are 20 persons already");
        }
        return family.enter(first, second);
    }

    public void amend(int person, int first, int second) throws IllegalArgumentException {
        requirePerson(person);
        requireParents(first, second, person);
        family.first[person] = first;
        family.second[person] = second;
    }

    public void marry(int a, int b) throws IllegalArgumentException, IllegalStateException {
        requirePerson(a);
        requirePerson(b);
        if (a == b) {
            throw new IllegalArgumentException("nobody marries itself");
        }
        if (!family.isFree(a) || !family.isFree(b)) {
            throw new IllegalStateException("one of them died or has a living spouse");
        }
        family.spouseOf[a] = b;
        family.spouseOf[b] = a;
    }

    public boolean divorce(int person) throws IllegalArgumentException {
        requirePerson(person);
        int other = family.spouseOf[person];
        if (other == NONE || family.died(person) || family.died(other)) {
            return false;
        }
        family.spouseOf[person] = NONE;
        family.spouseOf[other] = NONE;
        return true;
    }

    public int spouse(int person) throws IllegalArgumentException {
        requirePerson(person);
        return family.spouseOf[person];
    }

    public void dies(int person, int day) throws IllegalArgumentException, IllegalStateException {
        requirePerson(person);
        if (day < 0 || day > LAST_DAY) {
            throw new IllegalArgumentException("a day is 0 to 999");
        }
        if (family.died(person)) {
            throw new IllegalStateException("it died already");
        }
        family.deathDay[person] = day;
    }

    public boolean exclude(int person, int from, boolean is) throws IllegalArgumentException {
        requirePerson(person);
        requirePerson(from);
        if (family.isExcluded(person, from) == is) {
            return false;
        }
        family.setExcluded(person, from, is);
        return true;
    }

    public int gift(int child, int from, int cents) throws IllegalArgumentException, IllegalStateException {
        requirePerson(child);
        requirePerson(from);
        if (!family.isChild(child, from)) {
            throw new IllegalArgumentException("gifts that count come from a parent");
        }
        if (cents < 1 || cents > MOST_CENTS) {
            throw new IllegalArgumentException("a gift is 1 to 1000000 cents");
        }
        int all = family.gifts[child][from] + cents;
        if (all > MOST_CENTS) {
            throw new IllegalStateException("all gifts would be above 1000000 cents");
        }
        family.gifts[child][from] = all;
        return all;
    }

    public void estate(int person, int cents) throws IllegalArgumentException {
        requirePerson(person);
        if (cents < 0 || cents > MOST_CENTS) {
            throw new IllegalArgumentException("an estate is 0 to 1000000 cents");
        }
        family.ownCents[person] = cents;
    }

    public int heirs(int of) throws IllegalArgumentException, IllegalStateException {
        requirePerson(of);
        requireDead(of);
        survey.look(of);
        division.divideByShares(1);
        return division.countTakers();
    }

    public int heir(int of, int i) throws IllegalArgumentException, IllegalStateException {
        requirePerson(of);
        requireDead(of);
        survey.look(of);
        division.divideByShares(1);
        return division.takerAt(i);
    }

    public long share(int of, int person) throws IllegalArgumentException, IllegalStateException {
        requirePerson(of);
        requirePerson(person);
        requireDead(of);
        survey.look(of);
        division.divideByShares(1);
        return division.inLowestTerms(person);
    }

    public int order(int of) throws IllegalArgumentException, IllegalStateException {
        requirePerson(of);
        requireDead(of);
        survey.look(of);
        return survey.taker;
    }

    public int stem(int of, int person) throws IllegalArgumentException, IllegalStateException {
        requirePerson(of);
        requirePerson(person);
        requireDead(of);
        survey.look(of);
        return survey.leastStemOver(person);
    }

    public int settle() {
        return ledger.settleAll();
    }

    public long paid(int of, int person) throws IllegalArgumentException {
        requirePerson(of);
        return ledger.payments[of][placeOf(person)];
    }

    public long total(int person) throws IllegalArgumentException {
        requirePerson(person);
        return ledger.totals[person];
    }

    public long got(int person) throws IllegalArgumentException {
        return ledger.receipts[placeOf(person)];
    }

    private void requirePerson(int person) {
        if (person < 0 || person >= family.count) {
            throw new IllegalArgumentException("there is no such person");
        }
    }

    private void requireDead(int of) {
        if (!family.died(of)) {
            throw new IllegalStateException("it did not die");
        }
    }

    private static void requireParents(int first, int second, int below) {
        if (first < NONE || first >= below || second < NONE || second >= below) {
            throw new IllegalArgumentException("a parent is NONE or a person with a lesser number");
        }
        if (first == second && first != NONE) {
            throw new IllegalArgumentException("the parents are the same");
        }
    }

    private int placeOf(int person) {
        if (person == NONE) {
            return TOWN;
        }
        requirePerson(person);
        return person;
    }

    /** What was entered about the persons. */
    private static final class Family {
        int count;
        final int[] first = new int[MOST_PERSONS];
        final int[] second = new int[MOST_PERSONS];
        final int[] spouseOf = new int[MOST_PERSONS];
        /** NONE for those who did not die. */
        final int[] deathDay = new int[MOST_PERSONS];
        final int[] ownCents = new int[MOST_PERSONS];
        /** By child, then by parent: kept when the parents become others. */
        final int[][] gifts = new int[MOST_PERSONS][MOST_PERSONS];
        /** By the one whose estate it is, a bit for each person. */
        final int[] excluded = new int[MOST_PERSONS];

        int enter(int firstParent, int secondParent) {
            int number = count;
            first[number] = firstParent;
            second[number] = secondParent;
            spouseOf[number] = NONE;
            deathDay[number] = NONE;
            count++;
            return number;
        }

        boolean died(int who) {
            return deathDay[who] != NONE;
        }

        boolean isFree(int who) {
            return !died(who) && (spouseOf[who] == NONE || died(spouseOf[who]));
        }

        boolean isChild(int child, int parent) {
            return first[child] == parent || second[child] == parent;
        }

        boolean isExcluded(int who, int from) {
            return (excluded[from] & 1 << who) != 0;
        }

        void setExcluded(int who, int from, boolean is) {
            excluded[from] = is ? excluded[from] | 1 << who : excluded[from] & ~(1 << who);
        }

        boolean isLeft(int who, int of) {
            return who != of && !isExcluded(who, of) && (!died(who) || deathDay[who] > deathDay[of]);
        }
    }

    /** Looks at one estate: who is left, which stems and lines have heirs, and who takes it. */
    private static final class Survey {
        final Family family;
        int deceased;
        /** The spouse who is left; NONE when there is none such. */
        int widowed;
        /** As the face's order tells it. */
        int taker;
        final boolean[] left = new boolean[MOST_PERSONS];
        /** How many children of each have stems with heirs. */
        final int[] branches = new int[MOST_PERSONS];
        /** Whether the line of each has heirs, a row of persons for each height. */
        final boolean[] lines = new boolean[(HIGHEST_ORDER + 1) * MOST_PERSONS];
        final boolean[] reached = new boolean[MOST_PERSONS];

        Survey(Family family) {
            this.family = family;
        }

        void look(int of) {
            deceased = of;
            findStems();
            findLines();
            int other = family.spouseOf[of];
            widowed = other != NONE && left[other] ? other : NONE;
            taker = findTaker();
        }

        boolean hasHeirs(int who, int height) {
            return who != NONE && lines[height * MOST_PERSONS + who];
        }

        /** The spouse's part, in quarters of the estate. */
        int spouseQuarters() {
            if (widowed == NONE) {
                return 0;
            }
            if (taker == 0) {
                return 1;
            }
            return taker <= HIGHEST_ORDER ? 2 : 4;
        }

        /** Children have greater numbers, so falling numbers meet all children before a parent. */
        private void findStems() {
            Arrays.fill(branches, 0);
            for (int who = family.count - 1; who >= 0; who--) {
                left[who] = family.isLeft(who, deceased);
                boolean has = left[who] || branches[who] > 0;
                lines[who] = has;
                if (has) {
                    addBranch(family.first[who]);
                    addBranch(family.second[who]);
                }
            }
        }

        private void addBranch(int parent) {
            if (parent != NONE) {
                branches[parent]++;
            }
        }

        private void findLines() {
            for (int height = 1; height <= HIGHEST_ORDER; height++) {
                for (int who = 0; who < family.count; who++) {
                    lines[height * MOST_PERSONS + who] = hasHeirs(family.first[who], height - 1)
                        || hasHeirs(family.second[who], height - 1);
                }
            }
        }

        /** The order 0 is the stem, that is the line with the height 0, of the deceased. */
        private int findTaker() {
            int highest = widowed == NONE ? HIGHEST_ORDER : HIGHEST_ORDER - 1;
            for (int height = 0; height <= highest; height++) {
                if (hasHeirs(deceased, height)) {
                    return height;
                }
            }
            return widowed == NONE ? TOWN_ALONE : SPOUSE_ALONE;
        }

        /** The least of those with whom the taking order begins whose stem has who as an heir. */
        int leastStemOver(int who) {
            if (taker > HIGHEST_ORDER || !left[who]) {
                return NONE;
            }
            for (int top = 0; top <= who; top++) {
                if (beginsOrder(top) && stemReaches(top, who)) {
                    return top;
                }
            }
            return NONE;
        }

        private boolean beginsOrder(int top) {
            return taker == 0 ? family.isChild(top, deceased) : isAncestor(family, top, deceased, taker);
        }

        private static boolean isAncestor(Family family, int top, int who, int height) {
            if (who == NONE || height <= 0) {
                return who == top;
            }
            return isAncestor(family, top, family.first[who], height - 1)
                || isAncestor(family, top, family.second[who], height - 1);
        }

        private boolean stemReaches(int top, int who) {
            for (int next = 0; next <= who; next++) {
                reached[next] = next == top || passesOn(family.first[next]) || passesOn(family.second[next]);
            }
            return reached[who];
        }

        private boolean passesOn(int parent) {
            return parent != NONE && reached[parent] && !left[parent];
        }
    }

    /**
     * Divides the estate that was surveyed: what each one takes, as a numerator over one
     * denominator for all.
     *
     * The denominator has every number of branches as a factor, so each division is exact. As 20
     * persons have at most 37 parents known, the product of the branches is below 3 to the 13th,
     * and with 20 estates and 20 gifts of 1000000 cents all numerators stay far below 2 to the 63rd.
     */
    private static final class Division {
        final Family family;
        final Survey survey;
        final Hotchpot hotchpot;
        final long[] takes = new long[MOST_PERSONS];
        long denominator = 1;
        final long[] parts = new long[MOST_PERSONS];
        final long[] higher = new long[MOST_PERSONS];

        Division(Family family, Survey survey) {
            this.family = family;
            this.survey = survey;
            hotchpot = new Hotchpot(family, survey);
        }

        void divideByShares(long amount) {
            long quarter = (1L << HIGHEST_ORDER) * branchProduct();
            startWith(4 * quarter, amount * quarter);
            if (survey.taker <= HIGHEST_ORDER) {
                parts[survey.deceased] = amount * quarter * (4 - survey.spouseQuarters());
                raiseParts(survey.taker);
                lowerParts();
            }
        }

        /** For the order 0 alone: elsewhere gifts do not count. */
        void divideWithGifts(long cents) {
            hotchpot.gather(cents * (4 - survey.spouseQuarters()));
            hotchpot.releaseThoseAbove();
            long unit = branchProduct();
            long quarter = unit * hotchpot.size;
            startWith(4 * quarter, cents * quarter);
            for (int child = 0; child < family.count; child++) {
                if (hotchpot.in[child]) {
                    parts[child] = hotchpot.partTimesSize(child) * unit;
                }
            }
            lowerParts();
        }

        private long branchProduct() {
            long product = 1;
            for (int who = 0; who < family.count; who++) {
                if (!survey.left[who] && survey.branches[who] > 0) {
                    product *= survey.branches[who];
                }
            }
            return product;
        }

        private void startWith(long newDenominator, long spouseUnit) {
            denominator = newDenominator;
            Arrays.fill(parts, 0);
            Arrays.fill(takes, 0);
            if (survey.widowed != NONE) {
                takes[survey.widowed] = spouseUnit * survey.spouseQuarters();
            }
        }

        /** Hands the parts of lines up to the ancestors, whose stems then have them. */
        private void raiseParts(int height) {
            for (int rest = height - 1; rest >= 0; rest--) {
                Arrays.fill(higher, 0);
                for (int who = 0; who < family.count; who++) {
                    if (parts[who] > 0) {
                        raisePart(who, rest);
                    }
                }
                System.arraycopy(higher, 0, parts, 0, MOST_PERSONS);
            }
        }

        private void raisePart(int who, int rest) {
            int first = family.first[who];
            int second = family.second[who];
            boolean firstHas = survey.hasHeirs(first, rest);
            boolean secondHas = survey.hasHeirs(second, rest);
            long part = firstHas && secondHas ? parts[who] / 2 : parts[who];
            if (firstHas) {
                higher[first] += part;
            }
            if (secondHas) {
                higher[second] += part;
            }
        }

        /** Parents have lesser numbers, so rising numbers meet a stem when all its parts are in. */
        private void lowerParts() {
            for (int who = 0; who < family.count; who++) {
                if (survey.left[who]) {
                    takes[who] += parts[who];
                } else if (parts[who] > 0 && survey.branches[who] > 0) {
                    lowerPart(who, parts[who] / survey.branches[who]);
                }
            }
        }

        private void lowerPart(int who, long part) {
            for (int child = who + 1; child < family.count; child++) {
                if (family.isChild(child, who) && survey.hasHeirs(child, 0)) {
                    parts[child] += part;
                }
            }
        }

        int countTakers() {
            int number = 0;
            for (int who = 0; who < family.count; who++) {
                if (takes[who] > 0) {
                    number++;
                }
            }
            return number;
        }

        int takerAt(int i) {
            int before = 0;
            for (int who = 0; who < family.count; who++) {
                if (takes[who] > 0) {
                    if (before == i) {
                        return who;
                    }
                    before++;
                }
            }
            return NONE;
        }

        long inLowestTerms(int who) {
            if (takes[who] <= 0) {
                return 0;
            }
            long divisor = commonDivisor(takes[who], denominator);
            return divisor <= 0 ? 0 : takes[who] / divisor << 32 | denominator / divisor;
        }

        private static long commonDivisor(long a, long b) {
            long greater = a;
            long lesser = b;
            // Euclid's steps on longs are below 100.
            for (int step = 0; step < 100 && lesser > 0; step++) {
                long rest = greater % lesser;
                greater = lesser;
                lesser = rest;
            }
            return greater;
        }
    }

    /** The children of the deceased among whom the order 0 is divided when gifts are brought in. */
    private static final class Hotchpot {
        final Family family;
        final Survey survey;
        final boolean[] in = new boolean[MOST_PERSONS];
        int size;
        /** All amounts here are quarters of cents, as the spouse's part leaves such. */
        long amount;
        final long[] gifts = new long[MOST_PERSONS];

        Hotchpot(Family family, Survey survey) {
            this.family = family;
            this.survey = survey;
        }

        void gather(long amountWithoutGifts) {
            amount = amountWithoutGifts;
            size = 0;
            for (int child = 0; child < family.count; child++) {
                in[child] = family.isChild(child, survey.deceased) && survey.hasHeirs(child, 0);
                if (in[child]) {
                    gifts[child] = 4L * family.gifts[child][survey.deceased];
                    amount += gifts[child];
                    size++;
                }
            }
        }

        /** Who is released lowers the equal part, so it does not matter who is so first. */
        void releaseThoseAbove() {
            for (int round = 0; round < MOST_PERSONS; round++) {
                int child = findOneAbove();
                if (child == NONE) {
                    return;
                }
                in[child] = false;
                amount -= gifts[child];
                size--;
            }
        }

        private int findOneAbove() {
            for (int child = 0; child < family.count; child++) {
                if (in[child] && partTimesSize(child) < 0) {
                    return child;
                }
            }
            return NONE;
        }

        /** An equal part less the gifts; not divided by the size, so that it stays whole. */
        long partTimesSize(int child) {
            return amount - size * gifts[child];
        }
    }

    /** What was paid when it was settled last. */
    private static final class Ledger {
        final Family family;
        final Survey survey;
        final Division division;
        /** By the one whose estate it is, then by who was paid, the town last. */
        final long[][] payments = new long[MOST_PERSONS][MOST_PERSONS + 1];
        final long[] totals = new long[MOST_PERSONS];
        final long[] receipts = new long[MOST_PERSONS + 1];
        final boolean[] settled = new boolean[MOST_PERSONS];
        final long[] rests = new long[MOST_PERSONS];

        Ledger(Family family, Survey survey, Division division) {
            this.family = family;
            this.survey = survey;
            this.division = division;
        }

        int settleAll() {
            forget();
            int number = 0;
            for (int round = 0; round < family.count; round++) {
                int next = earliestUnsettled();
                if (next == NONE) {
                    return number;
                }
                settled[next] = true;
                settleOne(next);
                number++;
            }
            return number;
        }

        private void forget() {
            Arrays.fill(totals, 0);
            Arrays.fill(receipts, 0);
            for (int who = 0; who < MOST_PERSONS; who++) {
                Arrays.fill(payments[who], 0);
                settled[who] = false;
            }
        }

        /** Those of one day are not left for each other, so their order is free. */
        private int earliestUnsettled() {
            int earliest = NONE;
            for (int who = 0; who < family.count; who++) {
                if (family.died(who) && !settled[who]
                    && (earliest == NONE || family.deathDay[who] < family.deathDay[earliest])) {
                    earliest = who;
                }
            }
            return earliest;
        }

        private void settleOne(int of) {
            long cents = family.ownCents[of] + receipts[of];
            totals[of] = cents;
            survey.look(of);
            if (survey.taker == TOWN_ALONE) {
                pay(of, TOWN, cents);
                return;
            }
            if (survey.taker == 0) {
                division.divideWithGifts(cents);
            } else {
                division.divideByShares(cents);
            }
            payDues(of);
        }

        private void payDues(int of) {
            long denominator = division.denominator;
            if (denominator <= 0) {
                return;
            }
            long unpaid = totals[of];
            for (int who = 0; who < family.count; who++) {
                long cents = division.takes[who] / denominator;
                rests[who] = division.takes[who] % denominator;
                pay(of, who, cents);
                unpaid -= cents;
            }
            for (int round = 0; round < MOST_PERSONS && unpaid > 0; round++) {
                int who = greatestRest();
                pay(of, who, 1);
                rests[who] = 0;
                unpaid--;
            }
        }

        private int greatestRest() {
            int greatest = 0;
            for (int who = 1; who < family.count; who++) {
                if (rests[who] > rests[greatest]) {
                    greatest = who;
                }
            }
            return greatest;
        }

        private void pay(int of, int place, long cents) {
            payments[of][place] += cents;
            receipts[place] += cents;
        }
    }
}
