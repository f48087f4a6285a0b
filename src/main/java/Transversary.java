/**
 * A workshop of families of sets, and of those who must meet each of them.
 *
 * The face stands first: it looks at what it is given, throws what the document
 * names, and asks the workers below. These keep their rows for the whole life of
 * the object, so that a call makes nothing that has to be thrown away.
 */
public final class Transversary {
    private static final int NONE = -1;
    private static final int NOT_MADE = -2;
    private static final int LEAST_POINTS = 2;
    private static final int FIRST_POINTS = 4;
    private static final int MOST_POINTS = 7;
    private static final int MOST_WEIGHT = 9;
    private static final int MOST_FAMILIES = 5;
    private static final int MOST_SETS = 40;
    private static final int MOST_SEED = 99;
    /** How many SETS there can be of the most POINTS; one less masks a SET's number. */
    private static final int ALL_SETS = 128;
    private static final int MASK = ALL_SETS - 1;
    private static final long DIGEST_START = 58272;

    private final Points points = new Points();
    private final Sets[] families = new Sets[MOST_FAMILIES];
    private int familyCount;
    private final Sets parts = new Sets();
    private final Sets otherParts = new Sets();
    private final Sets made = new Sets();
    private final Covers covers = new Covers();
    private final Price prices = new Price();
    private final Rings rings = new Rings(covers);
    private final Samples samples = new Samples(covers);
    private final Makers makers = new Makers(samples);
    private final Signs signs = new Signs();
    private final Trees trees = new Trees();
    private final Orders orders = new Orders();
    private final Tables tables = new Tables();

    public Transversary() {
        for (int family = 0; family < families.length; family++) {
            families[family] = new Sets();
        }
        points.begin(FIRST_POINTS);
    }

    // ---- points and families

    public int ground(int points) throws IllegalArgumentException {
        checkRange(points, LEAST_POINTS, MOST_POINTS);
        this.points.begin(points);
        familyCount = 0;
        return this.points.howManySets();
    }

    public int weigh(int point, int weight) throws IndexOutOfBoundsException, IllegalArgumentException {
        checkPoint(point);
        checkRange(weight, 1, MOST_WEIGHT);
        int before = points.weightOf(point);
        points.tellWeight(point, weight);
        return before;
    }

    public int die(int point, boolean isDead) throws IndexOutOfBoundsException {
        checkPoint(point);
        points.tellDeath(point, isDead);
        return points.howManyAlive();
    }

    public int family() throws IllegalStateException {
        checkRoom();
        made.clear();
        return keep(made);
    }

    public int add(int family, int set)
            throws IndexOutOfBoundsException, IllegalArgumentException, IllegalStateException {
        Sets told = familyOf(family);
        checkSet(set);
        if (told.holds(set) || told.many() >= MOST_SETS) {
            throw new IllegalStateException("it has that, or is full");
        }
        told.put(set);
        return covers.countBlockers(partsOf(family), points.alive());
    }

    public int drop(int family, int set)
            throws IndexOutOfBoundsException, IllegalArgumentException, IllegalStateException {
        Sets told = familyOf(family);
        checkSet(set);
        if (!told.holds(set)) {
            throw new IllegalStateException("it has that not");
        }
        told.takeOut(set);
        return covers.countBlockers(partsOf(family), points.alive());
    }

    public int sow(int many, int much, int seed) throws IllegalArgumentException, IllegalStateException {
        checkRange(many, 1, MOST_SETS);
        checkRange(much, 1, 3);
        checkRange(seed, 0, MOST_SEED);
        checkRoom();
        makers.sowInto(made, many, much, seed, points.many());
        keep(made);
        return made.many();
    }

    // ---- families out of others

    public int least(int family) throws IndexOutOfBoundsException {
        covers.leastInto(made, partsOf(family));
        return keep(made);
    }

    public int blocker(int family) throws IndexOutOfBoundsException {
        covers.blockersInto(made, partsOf(family), points.alive());
        return keep(made);
    }

    public int minor(int family, int point, boolean isLink) throws IndexOutOfBoundsException {
        Sets asked = partsOf(family);
        checkPoint(point);
        makers.minorInto(made, asked, 1 << point, isLink);
        return keep(made);
    }

    public int mix(int one, int other, int how) throws IndexOutOfBoundsException, IllegalArgumentException {
        Sets asked = partsOf(one);
        Sets others = otherPartsOf(other);
        checkRange(how, 0, 2);
        makers.mixInto(made, asked, others, how);
        return keep(made);
    }

    public int shadow(int family) throws IndexOutOfBoundsException {
        makers.shadowInto(made, partsOf(family));
        return keep(made);
    }

    public int press(int family, int from, int to) throws IndexOutOfBoundsException, IllegalArgumentException {
        Sets asked = partsOf(family);
        checkPoint(from);
        checkPoint(to);
        if (from == to || !points.isAlive(from) || !points.isAlive(to)) {
            throw new IllegalArgumentException("both are the same, or one is DEAD");
        }
        makers.pressInto(made, asked, 1 << from, 1 << to);
        return keep(made);
    }

    public int settle(int family) throws IndexOutOfBoundsException {
        makers.settleInto(made, partsOf(family), points);
        return keep(made);
    }

    public int kernel(int family, int most) throws IndexOutOfBoundsException, IllegalArgumentException {
        Sets asked = partsOf(family);
        checkRange(most, 1, 6);
        makers.kernelInto(made, asked, points.alive(), most);
        return keep(made);
    }

    public int turn(int family) throws IndexOutOfBoundsException {
        makers.turnInto(made, partsOf(family), points.alive());
        return keep(made);
    }

    // ---- covers, packings, prices

    public int ofFamily(int family, int what) throws IndexOutOfBoundsException, IllegalArgumentException {
        Sets asked = partsOf(family);
        checkRange(what, 0, 9);
        return tellOfFamily(familyOf(family).many(), asked, what);
    }

    public int part(int family, int nth) throws IndexOutOfBoundsException, IllegalArgumentException {
        Sets asked = partsOf(family);
        if (nth < 0) {
            throw new IllegalArgumentException("a place is 0 or more");
        }
        return asked.at(nth);
    }

    public int cover(int family, int what) throws IndexOutOfBoundsException, IllegalArgumentException {
        Sets asked = partsOf(family);
        checkRange(what, 0, 3);
        return tellCover(asked, what);
    }

    public int price(int family, boolean isUnder) throws IndexOutOfBoundsException {
        prices.find(partsOf(family), points);
        return (int) (isUnder ? prices.under() : prices.above());
    }

    public int dual(int one, int other) throws IndexOutOfBoundsException {
        Sets asked = partsOf(one);
        Sets others = otherPartsOf(other);
        return covers.firstNotDual(asked, others, points.alive());
    }

    public int ring(int family, boolean isKnot) throws IndexOutOfBoundsException {
        Sets asked = partsOf(family);
        return isKnot ? rings.smallestKnot(asked, points.alive()) : rings.smallestRing(asked, points.alive());
    }

    public int game(int family) throws IndexOutOfBoundsException {
        return rings.winningPoint(partsOf(family), points.alive());
    }

    public int repair(int family, int set, int point) throws IndexOutOfBoundsException, IllegalArgumentException {
        Sets asked = partsOf(family);
        checkPoint(point);
        checkSet(set);
        if ((set & ~points.alive()) != 0 || (set & 1 << point) == 0) {
            throw new IllegalArgumentException("a DEAD POINT is in it, or that POINT is not");
        }
        return covers.nearestCover(asked, points.alive() & ~(1 << point), set);
    }

    // ---- flowers, samples

    public int flower(int family, int what) throws IndexOutOfBoundsException, IllegalArgumentException {
        Sets asked = partsOf(family);
        checkRange(what, 0, 1);
        samples.findFlower(asked, points.alive());
        return what == 0 ? samples.mostPetals() : samples.heart();
    }

    public int rich(int family, int what) throws IndexOutOfBoundsException, IllegalArgumentException {
        Sets asked = partsOf(family);
        checkRange(what, 0, 1);
        return what == 0 ? samples.greatestShattered(asked, points.alive())
                : samples.countShattered(asked, points.alive());
    }

    public int growth(int family, int size) throws IndexOutOfBoundsException, IllegalArgumentException {
        Sets asked = partsOf(family);
        checkRange(size, 0, MOST_POINTS);
        return samples.mostTraces(asked, points.alive(), size);
    }

    public int net(int family, int size) throws IndexOutOfBoundsException, IllegalArgumentException {
        Sets asked = partsOf(family);
        checkRange(size, 0, MOST_POINTS);
        return covers.lightestNet(asked, points, size);
    }

    public int fits(int family, int yes, int no) throws IndexOutOfBoundsException, IllegalArgumentException {
        Sets asked = partsOf(family);
        checkSet(yes);
        checkSet(no);
        return samples.countFitting(asked, yes & points.alive(), no);
    }

    public int leastShadow(int many, int rank) throws IllegalArgumentException {
        checkRange(many, 1, 500);
        checkRange(rank, 1, 7);
        return orders.leastShadowOf(many, rank);
    }

    public String cascade(int many, int rank) throws IllegalArgumentException {
        checkRange(many, 1, 500);
        checkRange(rank, 1, 7);
        return orders.cascadeText(many, rank);
    }

    // ---- signs, colours, trees

    public int even(int family, int what) throws IndexOutOfBoundsException, IllegalArgumentException {
        Sets asked = partsOf(family);
        checkRange(what, 0, 1);
        int evenest = signs.evenestSet(asked, points.alive());
        return what == 0 ? signs.tiltOf(asked, evenest) : evenest;
    }

    public int colours(int family) throws IndexOutOfBoundsException {
        return signs.fewestColours(partsOf(family), points.alive());
    }

    public int ways(int family, int numbers, int rest) throws IndexOutOfBoundsException, IllegalArgumentException {
        Sets asked = partsOf(family);
        checkRange(numbers, 2, 3);
        checkRange(rest, 0, numbers - 1);
        return signs.countWays(asked, points.alive(), numbers, rest);
    }

    public int resample(int family, int seed) throws IndexOutOfBoundsException, IllegalArgumentException {
        Sets asked = partsOf(family);
        checkRange(seed, 0, MOST_SEED);
        return signs.resampled(asked, points.alive(), seed);
    }

    public int joins(int family, int what) throws IndexOutOfBoundsException, IllegalArgumentException {
        Sets asked = partsOf(family);
        checkRange(what, 0, 3);
        return tellJoins(asked, what);
    }

    // ---- chains, holes, fields, tests

    public int chains(int family, int what) throws IndexOutOfBoundsException, IllegalArgumentException {
        Sets asked = partsOf(family);
        checkRange(what, 0, 3);
        return tellChains(asked, what);
    }

    public int bracket(int set, boolean isNext) throws IllegalArgumentException {
        checkSet(set);
        return isNext ? orders.nextByBrackets(set, points.many()) : orders.lastByBrackets(set, points.many());
    }

    public int faces(int family, int dimension, boolean isHole)
            throws IndexOutOfBoundsException, IllegalArgumentException {
        Sets asked = partsOf(family);
        checkRange(dimension, 0, 6);
        tables.findFaces(asked);
        return isHole ? tables.countHoles(dimension) : tables.countFaces(dimension);
    }

    public int collapse(int family, int what) throws IndexOutOfBoundsException, IllegalArgumentException {
        Sets asked = partsOf(family);
        checkRange(what, 0, 1);
        return tellCollapse(asked, what);
    }

    public int rank(int family, int modulus) throws IndexOutOfBoundsException, IllegalArgumentException {
        Sets asked = partsOf(family);
        if (modulus != 2 && modulus != 3 && modulus != 5) {
            throw new IllegalArgumentException("a modulus is 2, 3 or 5");
        }
        return tables.rankModulo(asked, modulus);
    }

    public long outcome(int family, int ill) throws IndexOutOfBoundsException, IllegalArgumentException {
        Sets asked = partsOf(family);
        checkSet(ill);
        return samples.outcomeOf(asked, ill);
    }

    public int tells(int family, int what) throws IndexOutOfBoundsException, IllegalArgumentException {
        Sets asked = partsOf(family);
        checkRange(what, 0, 1);
        return tellTests(asked, what);
    }

    public boolean isSound() {
        for (int family = 0; family < familyCount; family++) {
            if (!isSoundFamily(partsOf(family))) {
                return false;
            }
        }
        return true;
    }

    public long digest() {
        long d = then(DIGEST_START, points.howManyAlive());
        for (int point = 0; point < points.many(); point++) {
            d = then(d, points.weightOf(point));
        }
        for (int family = 0; family < familyCount; family++) {
            int howManySets = familyOf(family).many();
            Sets asked = partsOf(family);
            d = digestOfCovers(d, howManySets, asked);
            d = digestOfColours(d, asked);
            d = digestOfChains(d, asked);
        }
        return then(d, isSound() ? 1 : 0);
    }

    // ---- what the face looks at

    private Sets familyOf(int family) {
        if (family < 0 || family >= familyCount || family >= families.length) {
            throw new IndexOutOfBoundsException("there is no such FAMILY");
        }
        return families[family];
    }

    private Sets partsOf(int family) {
        makers.partsInto(parts, familyOf(family), points.alive());
        return parts;
    }

    private Sets otherPartsOf(int family) {
        makers.partsInto(otherParts, familyOf(family), points.alive());
        return otherParts;
    }

    private void checkPoint(int point) {
        if (!points.knows(point)) {
            throw new IndexOutOfBoundsException("there is no such POINT");
        }
    }

    private void checkSet(int set) {
        checkRange(set, 0, points.howManySets() - 1);
    }

    private void checkRange(int number, int smallest, int greatest) {
        if (number < smallest || number > greatest) {
            throw new IllegalArgumentException("a number is out of its range");
        }
    }

    private void checkRoom() {
        if (familyCount >= MOST_FAMILIES) {
            throw new IllegalStateException("there are 5 FAMILIES");
        }
    }

    /** Keeps what was made as a FAMILY; its number, or -2. */
    private int keep(Sets sets) {
        if (familyCount < 0 || familyCount >= families.length || sets.many() > MOST_SETS) {
            return NOT_MADE;
        }
        families[familyCount].copy(sets);
        familyCount++;
        return familyCount - 1;
    }

    // ---- what the face tells, of PARTS that are found already

    private int tellOfFamily(int howManySets, Sets asked, int what) {
        switch (what) {
            case 0:
                return howManySets;
            case 1:
                return asked.many();
            case 2:
                return asked.greatestSize();
            case 3:
                return asked.smallestSize();
            case 4:
                return asked.greatestDegree();
            case 5:
                return asked.union();
            case 6:
                return covers.countLeast(asked);
            case 7:
                return covers.countBlockers(asked, points.alive());
            case 8:
                // SUMS has the bit of 0, if and only if two PARTS have nothing in common
                return (asked.sums() & 1) == 0 ? 1 : 0;
            default:
                return asked.sums();
        }
    }

    private int tellCover(Sets asked, int what) {
        if (what == 3) {
            return covers.greatestPacking(asked, points.alive());
        }
        if (asked.holds(0)) {
            return NONE;
        }
        if (what == 2) {
            return covers.greedySet(asked, points);
        }
        int lightest = covers.lightestNet(asked, points, 0);
        return what == 0 ? points.weightTogether(lightest) : lightest;
    }

    private int tellJoins(Sets asked, int what) {
        if (what == 3) {
            return trees.width(asked, points.alive());
        }
        trees.takeOffEars(asked);
        if (what == 0) {
            return trees.howManyLeft() == 0 ? 1 : 0;
        }
        return what == 1 ? trees.steps() : trees.howManyLeft();
    }

    private int tellChains(Sets asked, int what) {
        if (what == 0) {
            return orders.longestChain(asked);
        }
        if (what == 1) {
            return orders.fewestChains(asked);
        }
        orders.findSpread(covers.leastOf(asked), points.howManyAlive());
        return (int) (what == 2 ? orders.spreadAbove() : orders.spreadUnder());
    }

    private int tellCollapse(Sets asked, int what) {
        tables.findFaces(asked);
        tables.takeFreePairs();
        return what == 0 ? tables.steps() : tables.howManyLeft();
    }

    private int tellTests(Sets asked, int what) {
        samples.findOutcomes(asked);
        return what == 0 ? samples.greatestTold(points.alive()) : samples.countOutcomes(points.alive());
    }

    private boolean isSoundFamily(Sets asked) {
        if (!covers.isBlockedTwice(asked, points.alive())) {
            return false;
        }
        orders.findSpread(covers.leastOf(asked), points.howManyAlive());
        if (orders.spreadAbove() > orders.spreadUnder()) {
            return false;
        }
        prices.find(asked, points);
        if (prices.under() == NONE) {
            return true;
        }
        int packing = covers.greatestPacking(asked, points.alive());
        int weight = points.weightTogether(covers.lightestNet(asked, points, 0));
        return packing * prices.under() <= prices.above() && prices.above() <= weight * prices.under();
    }

    // ---- the checksum

    private static long then(long before, long number) {
        return before * 31 + number;
    }

    private long digestOfCovers(long before, int howManySets, Sets asked) {
        long d = before;
        for (int what = 0; what <= 9; what++) {
            d = then(d, tellOfFamily(howManySets, asked, what));
        }
        for (int nth = 0; nth < asked.many(); nth++) {
            d = then(d, asked.at(nth));
        }
        for (int what = 0; what <= 3; what++) {
            d = then(d, tellCover(asked, what));
        }
        prices.find(asked, points);
        d = then(d, prices.above());
        d = then(d, prices.under());
        return then(d, rings.smallestRing(asked, points.alive()));
    }

    private long digestOfColours(long before, Sets asked) {
        samples.findFlower(asked, points.alive());
        long d = then(before, samples.mostPetals());
        d = then(d, samples.heart());
        d = then(d, samples.greatestShattered(asked, points.alive()));
        d = then(d, samples.countShattered(asked, points.alive()));
        int evenest = signs.evenestSet(asked, points.alive());
        d = then(d, signs.tiltOf(asked, evenest));
        d = then(d, evenest);
        d = then(d, signs.fewestColours(asked, points.alive()));
        return then(d, signs.countWays(asked, points.alive(), 2, 0));
    }

    private long digestOfChains(long before, Sets asked) {
        long d = before;
        for (int what = 0; what <= 3; what++) {
            d = then(d, tellJoins(asked, what));
        }
        for (int what = 0; what <= 3; what++) {
            d = then(d, tellChains(asked, what));
        }
        tables.findFaces(asked);
        for (int dimension = 0; dimension <= 2; dimension++) {
            d = then(d, tables.countHoles(dimension));
        }
        d = then(d, tellCollapse(asked, 0));
        d = then(d, tellCollapse(asked, 1));
        d = then(d, tables.rankModulo(asked, 2));
        d = then(d, tables.rankModulo(asked, 3));
        d = then(d, tellTests(asked, 0));
        return then(d, tellTests(asked, 1));
    }

    // ---- what several workers need

    private static int sizeOf(int set) {
        return Integer.bitCount(set);
    }

    /** Whether all POINTS of the one are in the other (which may be the same). */
    private static boolean isIn(int set, int other) {
        return (set & ~other) == 0;
    }

    private static int nextOfRow(int number) {
        return (41 * number + 23) % 109;
    }

    private static long quotient(long number, long divisor) {
        return divisor == 0 ? 0 : number / divisor;
    }

    /** The greatest common divisor of numbers of 0 or more, and 1 if both are 0. */
    private static long commonDivisor(long one, long other) {
        long greater = one;
        long smaller = other;
        for (int turn = 0; turn < 200 && smaller != 0; turn++) {
            long rest = greater % smaller;
            greater = smaller;
            smaller = rest;
        }
        return greater == 0 ? 1 : greater;
    }

    // ---- the workers

    /** The POINTS: how many there are, which are ALIVE, and what they weigh. */
    private static final class Points {
        private final int[] weights = new int[MOST_POINTS];
        private int many;
        private int alive;

        void begin(int howMany) {
            many = howMany;
            alive = howManySets() - 1;
            for (int point = 0; point < weights.length; point++) {
                weights[point] = 1;
            }
        }

        int many() {
            return many;
        }

        int alive() {
            return alive;
        }

        int howManySets() {
            return 1 << many;
        }

        int howManyAlive() {
            return sizeOf(alive);
        }

        boolean knows(int point) {
            return point >= 0 && point < many && point < weights.length;
        }

        boolean isAlive(int point) {
            return knows(point) && (alive & 1 << point) != 0;
        }

        int weightOf(int point) {
            return knows(point) ? weights[point] : 1;
        }

        void tellWeight(int point, int weight) {
            if (knows(point)) {
                weights[point] = weight;
            }
        }

        void tellDeath(int point, boolean isDead) {
            if (knows(point)) {
                alive = isDead ? alive & ~(1 << point) : alive | 1 << point;
            }
        }

        int weightTogether(int set) {
            int weight = 0;
            for (int point = 0; point < weights.length; point++) {
                if ((set & 1 << point) != 0) {
                    weight += weights[point];
                }
            }
            return weight;
        }
    }

    /** A number of different SETS, in a row by their numbers. */
    private static final class Sets {
        private final boolean[] isHeld = new boolean[ALL_SETS];
        private final int[] row = new int[ALL_SETS];
        private int many;

        int many() {
            return many;
        }

        boolean holds(int set) {
            return set >= 0 && set < isHeld.length && isHeld[set];
        }

        int at(int nth) {
            return nth >= 0 && nth < many && nth < row.length ? row[nth] : NONE;
        }

        void clear() {
            for (int set = 0; set < isHeld.length; set++) {
                isHeld[set] = false;
            }
            many = 0;
        }

        void copy(Sets other) {
            clear();
            for (int nth = 0; nth < other.many(); nth++) {
                put(other.at(nth));
            }
        }

        void put(int set) {
            if (set < 0 || set >= isHeld.length || isHeld[set] || many >= row.length) {
                return;
            }
            int place = many;
            while (place > 0 && row[place - 1] > set) {
                row[place] = row[place - 1];
                place--;
            }
            row[place] = set;
            isHeld[set] = true;
            many++;
        }

        void takeOut(int set) {
            if (set < 0 || set >= isHeld.length || !isHeld[set]) {
                return;
            }
            isHeld[set] = false;
            int kept = 0;
            for (int nth = 0; nth < many && nth < row.length; nth++) {
                if (row[nth] != set) {
                    row[kept] = row[nth];
                    kept++;
                }
            }
            many = kept;
        }

        boolean isSame(Sets other) {
            for (int set = 0; set < isHeld.length; set++) {
                if (isHeld[set] != other.holds(set)) {
                    return false;
                }
            }
            return true;
        }

        int greatestSize() {
            int greatest = NONE;
            for (int nth = 0; nth < many; nth++) {
                greatest = Math.max(greatest, sizeOf(at(nth)));
            }
            return greatest;
        }

        int smallestSize() {
            int smallest = many == 0 ? NONE : MOST_POINTS;
            for (int nth = 0; nth < many; nth++) {
                smallest = Math.min(smallest, sizeOf(at(nth)));
            }
            return smallest;
        }

        int union() {
            int union = 0;
            for (int nth = 0; nth < many; nth++) {
                union |= at(nth);
            }
            return union;
        }

        int degreeOf(int bit) {
            int degree = 0;
            for (int nth = 0; nth < many; nth++) {
                if ((at(nth) & bit) != 0) {
                    degree++;
                }
            }
            return degree;
        }

        int greatestDegree() {
            int greatest = 0;
            for (int point = 0; point < MOST_POINTS; point++) {
                greatest = Math.max(greatest, degreeOf(1 << point));
            }
            return greatest;
        }

        int sums() {
            int sums = 0;
            for (int nth = 0; nth < many; nth++) {
                for (int ahead = 0; ahead < nth; ahead++) {
                    sums |= 1 << sizeOf(at(nth) & at(ahead));
                }
            }
            return sums;
        }

        /** Whether one of these is BELOW the SET. */
        boolean hasBelow(int set) {
            for (int nth = 0; nth < many; nth++) {
                if (at(nth) != set && isIn(at(nth), set)) {
                    return true;
                }
            }
            return false;
        }

        /** Whether the SET is BELOW one of these. */
        boolean hasAbove(int set) {
            for (int nth = 0; nth < many; nth++) {
                if (at(nth) != set && isIn(set, at(nth))) {
                    return true;
                }
            }
            return false;
        }

        /** Whether one of these is in the SET, and has so many POINTS or more. */
        boolean hasWithin(int set, int size) {
            for (int nth = 0; nth < many; nth++) {
                if (isIn(at(nth), set) && sizeOf(at(nth)) >= size) {
                    return true;
                }
            }
            return false;
        }
    }

    /** Makes SETS out of others. */
    private static final class Makers {
        /** Far above what any run needs: each round of SETTLING lowers a POINT of a PART. */
        private static final int MOST_ROUNDS = 10000;

        private final Samples samples;
        private final Sets next = new Sets();

        Makers(Samples samples) {
            this.samples = samples;
        }

        void partsInto(Sets into, Sets sets, int alive) {
            into.clear();
            for (int nth = 0; nth < sets.many(); nth++) {
                into.put(sets.at(nth) & alive);
            }
        }

        void sowInto(Sets into, int many, int much, int seed, int howManyPoints) {
            into.clear();
            int number = seed;
            for (int time = 0; time < many; time++) {
                int set = 0;
                for (int point = 0; point < howManyPoints; point++) {
                    number = nextOfRow(number);
                    if (number % 4 < much) {
                        set |= 1 << point;
                    }
                }
                into.put(set);
            }
        }

        void minorInto(Sets into, Sets parts, int bit, boolean isLink) {
            into.clear();
            for (int nth = 0; nth < parts.many(); nth++) {
                int part = parts.at(nth);
                boolean hasIt = (part & bit) != 0;
                if (hasIt == isLink) {
                    into.put(part & ~bit);
                }
            }
        }

        void mixInto(Sets into, Sets parts, Sets others, int how) {
            into.clear();
            for (int nth = 0; nth < parts.many(); nth++) {
                for (int other = 0; other < others.many(); other++) {
                    into.put(mixed(parts.at(nth), others.at(other), how));
                }
            }
        }

        private static int mixed(int one, int other, int how) {
            if (how == 0) {
                return one | other;
            }
            return how == 1 ? one & other : one ^ other;
        }

        void shadowInto(Sets into, Sets parts) {
            into.clear();
            for (int nth = 0; nth < parts.many(); nth++) {
                for (int point = 0; point < MOST_POINTS; point++) {
                    if ((parts.at(nth) & 1 << point) != 0) {
                        into.put(parts.at(nth) & ~(1 << point));
                    }
                }
            }
        }

        void pressInto(Sets into, Sets parts, int from, int to) {
            into.clear();
            for (int nth = 0; nth < parts.many(); nth++) {
                int part = parts.at(nth);
                boolean canMove = (part & from) != 0 && (part & to) == 0;
                int moved = part & ~from | to;
                into.put(canMove && !parts.holds(moved) ? moved : part);
            }
        }

        void settleInto(Sets into, Sets parts, Points points) {
            into.copy(parts);
            boolean isChanged = true;
            for (int round = 0; round < MOST_ROUNDS && isChanged; round++) {
                isChanged = settleOnce(into, points);
            }
        }

        private boolean settleOnce(Sets sets, Points points) {
            boolean isChanged = false;
            for (int to = 0; to < MOST_POINTS; to++) {
                for (int from = to + 1; from < MOST_POINTS; from++) {
                    if (points.isAlive(to) && points.isAlive(from)) {
                        pressInto(next, sets, 1 << from, 1 << to);
                        isChanged |= !next.isSame(sets);
                        sets.copy(next);
                    }
                }
            }
            return isChanged;
        }

        void kernelInto(Sets into, Sets parts, int alive, int most) {
            into.copy(parts);
            // each HEART takes two PARTS or more and gives one: there are no more turns than PARTS
            for (int turn = 0; turn < ALL_SETS; turn++) {
                int heart = samples.smallestHeart(into, alive, most);
                if (heart == NONE) {
                    return;
                }
                next.clear();
                for (int nth = 0; nth < into.many(); nth++) {
                    if (!isIn(heart, into.at(nth))) {
                        next.put(into.at(nth));
                    }
                }
                next.put(heart);
                into.copy(next);
            }
        }

        void turnInto(Sets into, Sets parts, int alive) {
            into.clear();
            for (int nth = 0; nth < parts.many(); nth++) {
                into.put(alive & ~parts.at(nth));
            }
        }
    }

    /** LEAST, COVERS, BLOCKERS and PACKINGS. */
    private static final class Covers {
        private final Sets least = new Sets();
        private final Sets blockers = new Sets();
        private final Sets blockersTwice = new Sets();
        private final boolean[] isCover = new boolean[ALL_SETS];
        private final int[] packed = new int[ALL_SETS];

        void leastInto(Sets into, Sets parts) {
            into.clear();
            for (int nth = 0; nth < parts.many(); nth++) {
                if (!parts.hasBelow(parts.at(nth))) {
                    into.put(parts.at(nth));
                }
            }
        }

        Sets leastOf(Sets parts) {
            leastInto(least, parts);
            return least;
        }

        int countLeast(Sets parts) {
            return leastOf(parts).many();
        }

        private static boolean meetsAll(int set, Sets parts, int size) {
            for (int nth = 0; nth < parts.many(); nth++) {
                int part = parts.at(nth);
                if ((part & set) == 0 && sizeOf(part) >= size) {
                    return false;
                }
            }
            return true;
        }

        void blockersInto(Sets into, Sets parts, int alive) {
            into.clear();
            for (int set = 0; set < isCover.length; set++) {
                isCover[set] = isIn(set, alive) && meetsAll(set, parts, 0);
                if (isCover[set] && !hasSmallerCover(set)) {
                    into.put(set);
                }
            }
        }

        /** What has more POINTS than a COVER is one too: one POINT less is all that needs a look. */
        private boolean hasSmallerCover(int set) {
            for (int point = 0; point < MOST_POINTS; point++) {
                if ((set & 1 << point) != 0 && isCover[set & ~(1 << point) & MASK]) {
                    return true;
                }
            }
            return false;
        }

        int countBlockers(Sets parts, int alive) {
            blockersInto(blockers, parts, alive);
            return blockers.many();
        }

        boolean isBlockedTwice(Sets parts, int alive) {
            blockersInto(blockers, parts, alive);
            blockersInto(blockersTwice, blockers, alive);
            return blockersTwice.isSame(leastOf(parts));
        }

        int firstNotDual(Sets parts, Sets others, int alive) {
            blockersInto(blockers, parts, alive);
            leastInto(least, others);
            for (int set = 0; set < ALL_SETS; set++) {
                if (blockers.holds(set) != least.holds(set)) {
                    return set;
                }
            }
            return NONE;
        }

        /** The lightest SET that MEETS each PART of that SIZE or more, of several the smallest. */
        int lightestNet(Sets parts, Points points, int size) {
            int lightest = NONE;
            int weight = 0;
            for (int set = 0; set < ALL_SETS; set++) {
                if (isIn(set, points.alive()) && meetsAll(set, parts, size)
                        && (lightest == NONE || points.weightTogether(set) < weight)) {
                    lightest = set;
                    weight = points.weightTogether(set);
                }
            }
            return lightest;
        }

        int nearestCover(Sets parts, int within, int from) {
            int nearest = NONE;
            for (int set = 0; set < ALL_SETS; set++) {
                if (isIn(set, within) && meetsAll(set, parts, 0)
                        && (nearest == NONE || sizeOf(set ^ from) < sizeOf(nearest ^ from))) {
                    nearest = set;
                }
            }
            return nearest;
        }

        /** For PARTS that are not empty: with each POINT that is added one PART or more is MET. */
        int greedySet(Sets parts, Points points) {
            int set = 0;
            for (int turn = 0; turn < MOST_POINTS; turn++) {
                int point = bestPoint(parts, points, set);
                if (point == NONE) {
                    return set;
                }
                set |= 1 << point;
            }
            return set;
        }

        private static int bestPoint(Sets parts, Points points, int set) {
            int best = NONE;
            int most = 0;
            for (int point = 0; point < MOST_POINTS; point++) {
                int gain = points.isAlive(point) ? countNewlyMet(parts, set, 1 << point) : 0;
                if (gain > 0 && (best == NONE
                        || gain * points.weightOf(best) > most * points.weightOf(point))) {
                    best = point;
                    most = gain;
                }
            }
            return best;
        }

        private static int countNewlyMet(Sets parts, int set, int bit) {
            int count = 0;
            for (int nth = 0; nth < parts.many(); nth++) {
                if ((parts.at(nth) & set) == 0 && (parts.at(nth) & bit) != 0) {
                    count++;
                }
            }
            return count;
        }

        /** Finds for each SET within that how many PARTS, none empty, can be in it and APART. */
        void pack(Sets parts, int within) {
            packed[0] = 0;
            for (int set = 1; set < packed.length; set++) {
                if (isIn(set, within)) {
                    packed[set] = packOne(parts, set);
                }
            }
        }

        private int packOne(Sets parts, int set) {
            int first = Integer.lowestOneBit(set);
            int most = packed[set & ~first & MASK];
            for (int nth = 0; nth < parts.many(); nth++) {
                int part = parts.at(nth);
                if ((part & first) != 0 && isIn(part, set)) {
                    most = Math.max(most, 1 + packed[set & ~part & MASK]);
                }
            }
            return most;
        }

        int packedIn(int set) {
            return packed[set & MASK];
        }

        int greatestPacking(Sets parts, int alive) {
            pack(parts, alive);
            return packedIn(alive) + (parts.holds(0) ? 1 : 0);
        }
    }

    /**
     * PRICE, by the simplex method on whole numbers: all of a table is over one
     * divisor, the last pivot, and each division by the one ahead has no rest.
     */
    private static final class Price {
        private static final int GOAL = MOST_POINTS;
        private static final int LIMIT = MOST_SETS + MOST_POINTS;
        private static final int MOST_TURNS = 100000;

        private final long[][] table = new long[MOST_POINTS + 1][MOST_SETS + MOST_POINTS + 1];
        private final int[] basis = new int[MOST_POINTS];
        private long divisor;
        private long above;
        private long under;

        long above() {
            return above;
        }

        long under() {
            return under;
        }

        void find(Sets parts, Points points) {
            above = NONE;
            under = NONE;
            if (parts.holds(0)) {
                return;
            }
            lay(parts, points);
            climb();
            long shared = commonDivisor(table[GOAL][LIMIT], divisor);
            above = quotient(table[GOAL][LIMIT], shared);
            under = quotient(divisor, shared);
        }

        /** A row for each POINT (that of a DEAD one binds nothing), a column for each PART and each row's slack. */
        private void lay(Sets parts, Points points) {
            divisor = 1;
            for (int column = 0; column <= LIMIT; column++) {
                int part = column < MOST_SETS && column < parts.many() ? parts.at(column) : 0;
                for (int point = 0; point < MOST_POINTS; point++) {
                    boolean isOne = (part & 1 << point) != 0 || column == MOST_SETS + point;
                    table[point][column] = isOne ? 1 : 0;
                }
                table[GOAL][column] = part == 0 ? 0 : -1;
            }
            for (int point = 0; point < MOST_POINTS; point++) {
                table[point][LIMIT] = points.weightOf(point);
                basis[point] = MOST_SETS + point;
            }
        }

        private void climb() {
            for (int turn = 0; turn < MOST_TURNS; turn++) {
                int column = entering();
                int row = leaving(column);
                if (row == NONE) {
                    return;
                }
                pivot(row, column);
            }
        }

        /** The first column that can rise, and the first of equal rows: so it never turns in a circle. */
        private int entering() {
            for (int column = 0; column < LIMIT; column++) {
                if (table[GOAL][column] < 0) {
                    return column;
                }
            }
            return NONE;
        }

        private int leaving(int column) {
            if (column < 0 || column >= LIMIT) {
                return NONE;
            }
            int best = NONE;
            for (int row = 0; row < MOST_POINTS; row++) {
                if (table[row][column] > 0 && (best == NONE || isTighter(row, best, column))) {
                    best = row;
                }
            }
            return best;
        }

        private boolean isTighter(int row, int other, int column) {
            long one = table[row][LIMIT] * table[other][column];
            long two = table[other][LIMIT] * table[row][column];
            return one < two || one == two && basis[row] < basis[other];
        }

        private void pivot(int row, int column) {
            if (row < 0 || row >= MOST_POINTS || column < 0 || column >= LIMIT) {
                return;
            }
            long pivot = table[row][column];
            for (int other = 0; other <= MOST_POINTS; other++) {
                long factor = table[other][column];
                for (int place = 0; place <= LIMIT && other != row; place++) {
                    long crossed = table[other][place] * pivot - factor * table[row][place];
                    table[other][place] = quotient(crossed, divisor);
                }
            }
            basis[row] = column;
            divisor = pivot;
        }
    }

    /** RINGS, KNOTS and the GAME. */
    private static final class Rings {
        private final Covers covers;
        private final int[] neighbours = new int[MOST_POINTS];
        private final int[] ends = new int[ALL_SETS];
        private final int[] greatestFree = new int[ALL_SETS];
        private final long[] wins = new long[2 * ALL_SETS];

        Rings(Covers covers) {
            this.covers = covers;
        }

        int smallestRing(Sets parts, int alive) {
            for (int set = 0; set < ALL_SETS; set++) {
                if (isIn(set, alive) && sizeOf(set) >= 3 && sizeOf(set) % 2 == 1) {
                    findNeighbours(parts, set);
                    if (hasRoundTrip(set)) {
                        return set;
                    }
                }
            }
            return NONE;
        }

        private void findNeighbours(Sets parts, int within) {
            for (int point = 0; point < neighbours.length; point++) {
                neighbours[point] = 0;
            }
            for (int nth = 0; nth < parts.many(); nth++) {
                int two = parts.at(nth) & within;
                for (int point = 0; point < neighbours.length && sizeOf(two) == 2; point++) {
                    if ((two & 1 << point) != 0) {
                        neighbours[point] |= two & ~(1 << point);
                    }
                }
            }
        }

        /** By the POINTS at which a way can end that begins at the first one and goes once through the SET. */
        private boolean hasRoundTrip(int set) {
            int first = Integer.lowestOneBit(set);
            ends[first & MASK] = first;
            for (int way = first + 1; way < ends.length; way++) {
                if (isIn(way, set) && (way & first) != 0) {
                    ends[way] = endsOf(way, first);
                }
            }
            return (ends[set & MASK] & neighboursOf(first)) != 0;
        }

        private int endsOf(int way, int first) {
            int found = 0;
            for (int point = 0; point < neighbours.length; point++) {
                int bit = 1 << point;
                boolean isEnd = (way & bit) != 0 && bit != first;
                if (isEnd && (ends[way & ~bit & MASK] & neighbours[point]) != 0) {
                    found |= bit;
                }
            }
            return found;
        }

        private int neighboursOf(int bit) {
            int point = Integer.numberOfTrailingZeros(bit);
            return point < neighbours.length ? neighbours[point] : 0;
        }

        /** What MEETS all PARTS in a SET leaves one of its SETS in which no PART is: the greatest such tells. */
        int smallestKnot(Sets parts, int alive) {
            covers.pack(parts, alive);
            for (int set = 0; set < greatestFree.length; set++) {
                if (isIn(set, alive)) {
                    greatestFree[set] = covers.packedIn(set) == 0 ? sizeOf(set) : greatestFreeWithin(set);
                    if (sizeOf(set) - greatestFree[set] > covers.packedIn(set)) {
                        return set;
                    }
                }
            }
            return NONE;
        }

        private int greatestFreeWithin(int set) {
            int greatest = 0;
            for (int point = 0; point < MOST_POINTS; point++) {
                if ((set & 1 << point) != 0) {
                    greatest = Math.max(greatest, greatestFree[set & ~(1 << point) & MASK]);
                }
            }
            return greatest;
        }

        int winningPoint(Sets parts, int alive) {
            playBackwards(parts, alive);
            for (int point = 0; point < MOST_POINTS; point++) {
                if ((alive & 1 << point) != 0 && isWin(1 << point, 0)) {
                    return point;
                }
            }
            return NONE;
        }

        /** From the ends on: what follows a place of the GAME has greater numbers than it. */
        private void playBackwards(Sets parts, int alive) {
            for (int place = 0; place < wins.length; place++) {
                wins[place] = 0;
            }
            for (int first = MASK; first >= 0; first--) {
                if (isIn(first, alive)) {
                    boolean hasPart = parts.hasWithin(first, 0);
                    for (int other = MASK; other >= 0; other--) {
                        if (isIn(other, alive & ~first) && canWin(first, other, alive, hasPart)) {
                            wins[placeOf(first, other)] |= 1L << (other & 63);
                        }
                    }
                }
            }
        }

        private boolean canWin(int first, int other, int alive, boolean hasPart) {
            int free = alive & ~first & ~other;
            int ahead = sizeOf(first) - sizeOf(other);
            if (free == 0 || hasPart) {
                return hasPart;
            }
            boolean isFirstsTurn = ahead == 0;
            if (!isFirstsTurn && ahead != 1) {
                return false;
            }
            for (int point = 0; point < MOST_POINTS; point++) {
                int bit = free & 1 << point;
                if (bit != 0 && isFirstsTurn && isWin(first | bit, other)) {
                    return true;
                }
                if (bit != 0 && !isFirstsTurn && !isWin(first, other | bit)) {
                    return false;
                }
            }
            return !isFirstsTurn;
        }

        private static int placeOf(int first, int other) {
            return (first & MASK) * 2 + (other >> 6 & 1);
        }

        private boolean isWin(int first, int other) {
            return (wins[placeOf(first, other)] >> (other & 63) & 1) != 0;
        }
    }

    /** FLOWERS, TRACES and OUTCOMES. */
    private static final class Samples {
        private final Covers covers;
        private final Sets petals = new Sets();
        private final long[] outcomes = new long[ALL_SETS];
        private int mostPetals;
        private int heart;

        Samples(Covers covers) {
            this.covers = covers;
        }

        int mostPetals() {
            return mostPetals;
        }

        int heart() {
            return heart;
        }

        void findFlower(Sets parts, int alive) {
            mostPetals = 0;
            heart = NONE;
            for (int set = 0; set < ALL_SETS; set++) {
                int many = isIn(set, alive) ? petalsAbove(mostPetals, parts, alive, set) : 0;
                if (many > mostPetals) {
                    mostPetals = many;
                    heart = set;
                }
            }
        }

        /** The smallest HEART of a FLOWER of more than so many PETALS. */
        int smallestHeart(Sets parts, int alive, int most) {
            for (int set = 0; set < ALL_SETS; set++) {
                if (isIn(set, alive) && petalsAbove(most, parts, alive, set) > most) {
                    return set;
                }
            }
            return NONE;
        }

        /** The most PETALS by that HEART; 0, if they are no more than the bound (then it need not pack). */
        private int petalsAbove(int bound, Sets parts, int alive, int centre) {
            petals.clear();
            for (int nth = 0; nth < parts.many(); nth++) {
                if (isIn(centre, parts.at(nth)) && parts.at(nth) != centre) {
                    petals.put(parts.at(nth) & ~centre);
                }
            }
            int own = parts.holds(centre) ? 1 : 0;
            int free = alive & ~centre;
            if (own + Math.min(petals.many(), sizeOf(free)) <= bound) {
                return 0;
            }
            covers.pack(petals, free);
            return own + covers.packedIn(free);
        }

        int countTraces(Sets parts, int set) {
            long low = 0;
            long high = 0;
            for (int nth = 0; nth < parts.many(); nth++) {
                int trace = parts.at(nth) & set;
                if (trace < 64) {
                    low |= 1L << trace;
                } else {
                    high |= 1L << (trace - 64);
                }
            }
            return Long.bitCount(low) + Long.bitCount(high);
        }

        private boolean isShattered(Sets parts, int set) {
            return countTraces(parts, set) == 1 << sizeOf(set);
        }

        int greatestShattered(Sets parts, int alive) {
            int greatest = NONE;
            for (int set = 0; set < ALL_SETS; set++) {
                if (isIn(set, alive) && sizeOf(set) > greatest && isShattered(parts, set)) {
                    greatest = sizeOf(set);
                }
            }
            return greatest;
        }

        int countShattered(Sets parts, int alive) {
            int count = 0;
            for (int set = 0; set < ALL_SETS; set++) {
                if (isIn(set, alive) && isShattered(parts, set)) {
                    count++;
                }
            }
            return count;
        }

        int mostTraces(Sets parts, int alive, int size) {
            int most = 0;
            for (int set = 0; set < ALL_SETS; set++) {
                if (isIn(set, alive) && sizeOf(set) == size) {
                    most = Math.max(most, countTraces(parts, set));
                }
            }
            return most;
        }

        int countFitting(Sets parts, int yes, int no) {
            int count = 0;
            for (int nth = 0; nth < parts.many(); nth++) {
                if (isIn(yes, parts.at(nth)) && (parts.at(nth) & no) == 0) {
                    count++;
                }
            }
            return count;
        }

        long outcomeOf(Sets parts, int ill) {
            long outcome = 0;
            for (int nth = 0; nth < parts.many(); nth++) {
                if ((parts.at(nth) & ill) != 0) {
                    outcome |= 1L << nth;
                }
            }
            return outcome;
        }

        void findOutcomes(Sets parts) {
            for (int set = 0; set < outcomes.length; set++) {
                outcomes[set] = outcomeOf(parts, set);
            }
        }

        /** One less than the SIZE up to which the first two SETS have the same OUTCOME. */
        int greatestTold(int alive) {
            int told = sizeOf(alive);
            for (int set = 0; set < outcomes.length; set++) {
                for (int other = 0; other < set && isIn(set, alive); other++) {
                    if (isIn(other, alive) && outcomes[other] == outcomes[set]) {
                        told = Math.min(told, Math.max(sizeOf(set), sizeOf(other)) - 1);
                    }
                }
            }
            return told;
        }

        int countOutcomes(int alive) {
            int count = 0;
            for (int set = 0; set < outcomes.length; set++) {
                if (isIn(set, alive) && !isToldAhead(set, alive)) {
                    count++;
                }
            }
            return count;
        }

        private boolean isToldAhead(int set, int alive) {
            for (int other = 0; other < set && other < outcomes.length; other++) {
                if (isIn(other, alive) && outcomes[other] == outcomes[set & MASK]) {
                    return true;
                }
            }
            return false;
        }
    }

    /** Signs, COLOURS, WAYS and numbers that are drawn again. */
    private static final class Signs {
        private static final int MOST_TAKEN = 60;

        private final boolean[] isOneColour = new boolean[ALL_SETS];
        private final int[] fewest = new int[ALL_SETS];
        /** How far the seed's row has been read. */
        private int drawn;

        int tiltOf(Sets parts, int set) {
            int tilt = 0;
            for (int nth = 0; nth < parts.many(); nth++) {
                int part = parts.at(nth);
                tilt = Math.max(tilt, Math.abs(2 * sizeOf(part & set) - sizeOf(part)));
            }
            return tilt;
        }

        int evenestSet(Sets parts, int alive) {
            int evenest = 0;
            int least = tiltOf(parts, 0);
            for (int set = 1; set < ALL_SETS; set++) {
                int tilt = isIn(set, alive) ? tiltOf(parts, set) : least;
                if (tilt < least) {
                    evenest = set;
                    least = tilt;
                }
            }
            return evenest;
        }

        int fewestColours(Sets parts, int alive) {
            for (int set = 0; set < isOneColour.length; set++) {
                isOneColour[set] = isIn(set, alive) && !parts.hasWithin(set, 2);
            }
            fewest[0] = 0;
            for (int set = 1; set < fewest.length; set++) {
                if (isIn(set, alive)) {
                    fewest[set] = fewestOf(set);
                }
            }
            return fewest[alive & MASK];
        }

        /** By the SET that has the colour of its first POINT. */
        private int fewestOf(int set) {
            int first = Integer.lowestOneBit(set);
            int best = MOST_POINTS;
            for (int same = first; same <= set && same < isOneColour.length; same++) {
                if (isIn(same, set) && (same & first) != 0 && isOneColour[same]) {
                    best = Math.min(best, 1 + fewest[set & ~same & MASK]);
                }
            }
            return best;
        }

        int countWays(Sets parts, int alive, int numbers, int rest) {
            int count = 0;
            for (int ones = 0; ones < ALL_SETS; ones++) {
                int mostTwos = numbers == 3 ? alive & ~ones : 0;
                for (int twos = 0; twos <= mostTwos && isIn(ones, alive); twos++) {
                    if (isIn(twos, mostTwos) && !hasRest(parts, ones, twos, numbers, rest)) {
                        count++;
                    }
                }
            }
            return count;
        }

        private static boolean hasRest(Sets parts, int ones, int twos, int numbers, int rest) {
            for (int nth = 0; nth < parts.many(); nth++) {
                int sum = sizeOf(parts.at(nth) & ones) + 2 * sizeOf(parts.at(nth) & twos);
                if (sum % (numbers == 3 ? 3 : 2) == rest) {
                    return true;
                }
            }
            return false;
        }

        int resampled(Sets parts, int alive, int seed) {
            drawn = seed;
            int ones = drawAgain(0, alive);
            for (int taken = 0; taken <= MOST_TAKEN; taken++) {
                int part = firstOfOneNumber(parts, ones);
                if (part == NONE) {
                    return taken * ALL_SETS + ones;
                }
                ones = drawAgain(ones, part);
            }
            return NONE;
        }

        private int drawAgain(int before, int set) {
            int ones = before & ~set;
            for (int point = 0; point < MOST_POINTS; point++) {
                if ((set & 1 << point) != 0) {
                    drawn = nextOfRow(drawn);
                    ones |= drawn % 2 == 1 ? 1 << point : 0;
                }
            }
            return ones;
        }

        private static int firstOfOneNumber(Sets parts, int ones) {
            for (int nth = 0; nth < parts.many(); nth++) {
                int part = parts.at(nth);
                if (sizeOf(part) >= 2 && ((part & ones) == 0 || isIn(part, ones))) {
                    return part;
                }
            }
            return NONE;
        }
    }

    /** EARS and WIDTH. */
    private static final class Trees {
        /** Each STEP takes a POINT out of a SET, or a SET. */
        private static final int MOST_STEPS = ALL_SETS * (MOST_POINTS + 1);

        private final Sets left = new Sets();
        private final int[] neighbours = new int[MOST_POINTS];
        private final int[] widths = new int[ALL_SETS];
        private int steps;

        int steps() {
            return steps;
        }

        int howManyLeft() {
            return left.many();
        }

        void takeOffEars(Sets parts) {
            left.copy(parts);
            steps = 0;
            boolean isStep = true;
            for (int turn = 0; turn < MOST_STEPS && isStep; turn++) {
                isStep = takeLonePoint() || takeLowSet();
                steps += isStep ? 1 : 0;
            }
        }

        private boolean takeLonePoint() {
            for (int point = 0; point < MOST_POINTS; point++) {
                if (left.degreeOf(1 << point) == 1) {
                    takeOutOfOne(1 << point);
                    return true;
                }
            }
            return false;
        }

        private void takeOutOfOne(int bit) {
            for (int nth = 0; nth < left.many(); nth++) {
                int set = left.at(nth);
                if ((set & bit) != 0) {
                    left.takeOut(set);
                    left.put(set & ~bit);
                    return;
                }
            }
        }

        private boolean takeLowSet() {
            for (int nth = 0; nth < left.many(); nth++) {
                int set = left.at(nth);
                if (set == 0 || left.hasAbove(set)) {
                    left.takeOut(set);
                    return true;
                }
            }
            return false;
        }

        /** By the SET of POINTS that are taken away: what is neighbours then does not hang on their order. */
        int width(Sets parts, int alive) {
            findNeighbours(parts);
            widths[0] = 0;
            for (int away = 1; away < widths.length; away++) {
                if (isIn(away, alive)) {
                    widths[away] = widthOf(away);
                }
            }
            return widths[alive & MASK];
        }

        private void findNeighbours(Sets parts) {
            for (int point = 0; point < neighbours.length; point++) {
                neighbours[point] = 0;
                for (int nth = 0; nth < parts.many(); nth++) {
                    if ((parts.at(nth) & 1 << point) != 0) {
                        neighbours[point] |= parts.at(nth) & ~(1 << point);
                    }
                }
            }
        }

        private int widthOf(int away) {
            int least = MOST_POINTS;
            for (int point = 0; point < MOST_POINTS; point++) {
                if ((away & 1 << point) != 0) {
                    int ahead = away & ~(1 << point) & MASK;
                    least = Math.min(least, Math.max(widths[ahead], countNeighbours(point, ahead)));
                }
            }
            return least;
        }

        /** Neighbours of a POINT when others are away: all that it reaches through these. */
        private int countNeighbours(int point, int away) {
            int reached = 1 << point;
            for (int round = 0; round < MOST_POINTS; round++) {
                int through = reached & (away | 1 << point);
                for (int other = 0; other < neighbours.length; other++) {
                    reached |= (through & 1 << other) != 0 ? neighbours[other] : 0;
                }
            }
            return sizeOf(reached & ~away & ~(1 << point));
        }
    }

    /** CHAINS, SPREAD, CASCADES and BRACKETS. */
    private static final class Orders {
        private static final int MOST_TAKEN_FROM = 500;

        private final int[] lengths = new int[MOST_SETS];
        private final int[] upperOf = new int[MOST_SETS];
        private final int[] lowerOf = new int[MOST_SETS];
        private final int[] reachedFrom = new int[MOST_SETS];
        private final int[] queue = new int[MOST_SETS];
        private long spreadAbove;
        private long spreadUnder;

        long spreadAbove() {
            return spreadAbove;
        }

        long spreadUnder() {
            return spreadUnder;
        }

        int longestChain(Sets parts) {
            int longest = 0;
            for (int nth = 0; nth < parts.many() && nth < lengths.length; nth++) {
                lengths[nth] = 1;
                for (int ahead = 0; ahead < nth; ahead++) {
                    if (isIn(parts.at(ahead), parts.at(nth))) {
                        lengths[nth] = Math.max(lengths[nth], 1 + lengths[ahead]);
                    }
                }
                longest = Math.max(longest, lengths[nth]);
            }
            return longest;
        }

        /** Each PART that can be tied to one above it, each to another, spares a CHAIN. */
        int fewestChains(Sets parts) {
            for (int nth = 0; nth < MOST_SETS; nth++) {
                upperOf[nth] = NONE;
                lowerOf[nth] = NONE;
            }
            int fewest = parts.many();
            for (int nth = 0; nth < parts.many() && nth < MOST_SETS; nth++) {
                int upper = freeUpperFrom(parts, nth);
                if (upper != NONE) {
                    tie(upper);
                    fewest--;
                }
            }
            return fewest;
        }

        /** Looks for a PART that nothing is tied to, and can be, as others change to theirs. */
        private int freeUpperFrom(Sets parts, int start) {
            for (int nth = 0; nth < reachedFrom.length; nth++) {
                reachedFrom[nth] = NONE;
            }
            queue[0] = start;
            int filled = 1;
            for (int place = 0; place < filled && place < queue.length; place++) {
                int lower = queue[place];
                for (int upper = 0; upper < parts.many() && upper < MOST_SETS; upper++) {
                    if (upper == lower || reachedFrom[upper] != NONE || !isIn(parts.at(lower), parts.at(upper))) {
                        continue;
                    }
                    reachedFrom[upper] = lower;
                    if (lowerOf[upper] == NONE) {
                        return upper;
                    }
                    if (filled < queue.length) {
                        queue[filled] = lowerOf[upper];
                        filled++;
                    }
                }
            }
            return NONE;
        }

        private void tie(int freeUpper) {
            int upper = freeUpper;
            for (int turn = 0; turn < MOST_SETS && upper >= 0 && upper < MOST_SETS; turn++) {
                int lower = reachedFrom[upper];
                if (lower < 0 || lower >= MOST_SETS) {
                    return;
                }
                int before = upperOf[lower];
                upperOf[lower] = upper;
                lowerOf[upper] = lower;
                upper = before;
            }
        }

        void findSpread(Sets least, int howManyAlive) {
            spreadAbove = 0;
            spreadUnder = 1;
            for (int nth = 0; nth < least.many(); nth++) {
                long ways = choose(howManyAlive, sizeOf(least.at(nth)));
                long sum = spreadAbove * ways + spreadUnder;
                long shared = commonDivisor(sum, spreadUnder * ways);
                spreadUnder = quotient(spreadUnder * ways, shared);
                spreadAbove = quotient(sum, shared);
            }
        }

        /** In how many ways so many are taken out of so many: after each factor it is such a number again. */
        private static long choose(int from, int many) {
            long ways = many < 0 ? 0 : 1;
            for (int taken = 0; taken < many; taken++) {
                ways = ways * (from - taken) / (taken + 1);
            }
            return ways;
        }

        private static int greatestThatFits(int left, int rank) {
            int number = rank;
            while (number < MOST_TAKEN_FROM && choose(number + 1, rank) <= left) {
                number++;
            }
            return number;
        }

        int leastShadowOf(int many, int rank) {
            int left = many;
            int shadow = 0;
            for (int taken = rank; taken >= 1 && left > 0; taken--) {
                int number = greatestThatFits(left, taken);
                left -= (int) choose(number, taken);
                shadow += (int) choose(number, taken - 1);
            }
            return shadow;
        }

        String cascadeText(int many, int rank) {
            StringBuilder text = new StringBuilder();
            int left = many;
            for (int taken = rank; taken >= 1 && left > 0; taken--) {
                int number = greatestThatFits(left, taken);
                left -= (int) choose(number, taken);
                text.append(taken == rank ? "C(" : "+C(").append(number).append(',').append(taken).append(')');
            }
            return text.toString();
        }

        /** From the end on: an opening bracket is free, if each closing one behind it has its own. */
        int nextByBrackets(int set, int howManyPoints) {
            int next = NONE;
            int closing = 0;
            for (int point = howManyPoints - 1; point >= 0; point--) {
                if ((set & 1 << point) != 0) {
                    closing++;
                } else if (closing > 0) {
                    closing--;
                } else {
                    next = set | 1 << point;
                }
            }
            return next;
        }

        int lastByBrackets(int set, int howManyPoints) {
            int last = NONE;
            int opening = 0;
            for (int point = 0; point < howManyPoints; point++) {
                if ((set & 1 << point) == 0) {
                    opening++;
                } else if (opening > 0) {
                    opening--;
                } else {
                    last = set & ~(1 << point);
                }
            }
            return last;
        }
    }

    /** FACES, HOLES and RANKS. */
    private static final class Tables {
        private final boolean[] isFace = new boolean[ALL_SETS];
        private final int[] placeOfFace = new int[ALL_SETS];
        private final long[] pivotRows = new long[64];
        private final int[][] reduced = new int[MOST_POINTS][MOST_POINTS];
        private final int[] line = new int[MOST_POINTS];
        private int steps;

        int steps() {
            return steps;
        }

        void findFaces(Sets parts) {
            isFace[0] = false;
            for (int set = 1; set < isFace.length; set++) {
                isFace[set] = parts.holds(set) || parts.hasAbove(set);
            }
        }

        int countFaces(int dimension) {
            int count = 0;
            for (int set = 1; set < isFace.length; set++) {
                if (isFace[set] && sizeOf(set) == dimension + 1) {
                    count++;
                }
            }
            return count;
        }

        int countHoles(int dimension) {
            return countFaces(dimension) - rankOfBorders(dimension) - rankOfBorders(dimension + 1);
        }

        /** The rank modulo 2 of the table that tells which FACES of one dimension less are BELOW those. */
        private int rankOfBorders(int dimension) {
            if (dimension == 0) {
                return 0;
            }
            numberFaces(dimension - 1);
            for (int place = 0; place < pivotRows.length; place++) {
                pivotRows[place] = 0;
            }
            int rank = 0;
            for (int set = 1; set < isFace.length; set++) {
                if (isFace[set] && sizeOf(set) == dimension + 1 && isNewRow(borderOf(set))) {
                    rank++;
                }
            }
            return rank;
        }

        private void numberFaces(int dimension) {
            int place = 0;
            for (int set = 1; set < isFace.length; set++) {
                if (isFace[set] && sizeOf(set) == dimension + 1) {
                    placeOfFace[set] = place;
                    place++;
                }
            }
        }

        private long borderOf(int set) {
            long border = 0;
            for (int point = 0; point < MOST_POINTS; point++) {
                if ((set & 1 << point) != 0) {
                    border |= 1L << placeOfFace[set & ~(1 << point) & MASK];
                }
            }
            return border;
        }

        private boolean isNewRow(long row) {
            long rest = row;
            for (int place = 0; place < pivotRows.length; place++) {
                if ((rest >>> place & 1) != 0) {
                    if (pivotRows[place] == 0) {
                        pivotRows[place] = rest;
                        return true;
                    }
                    rest ^= pivotRows[place];
                }
            }
            return false;
        }

        /** Takes pairs out of the FACES found, as long as one is BELOW just one. */
        void takeFreePairs() {
            steps = 0;
            boolean isStep = true;
            for (int turn = 0; turn < ALL_SETS && isStep; turn++) {
                isStep = takeFirstFreePair();
                steps += isStep ? 1 : 0;
            }
        }

        private boolean takeFirstFreePair() {
            for (int set = 1; set < isFace.length; set++) {
                int above = isFace[set] ? onlyFaceAbove(set) : NONE;
                if (above != NONE) {
                    isFace[set] = false;
                    isFace[above & MASK] = false;
                    return true;
                }
            }
            return false;
        }

        /**
         * With one POINT more is all that needs a look: above a FACE with two POINTS more
         * there would be two with one more, as all that is BELOW a FACE stays one.
         */
        private int onlyFaceAbove(int set) {
            int only = NONE;
            for (int point = 0; point < MOST_POINTS; point++) {
                int above = (set | 1 << point) & MASK;
                if (above != set && isFace[above]) {
                    if (only != NONE) {
                        return NONE;
                    }
                    only = above;
                }
            }
            return only;
        }

        int howManyLeft() {
            int count = 0;
            for (int set = 1; set < isFace.length; set++) {
                count += isFace[set] ? 1 : 0;
            }
            return count;
        }

        int rankModulo(Sets parts, int modulus) {
            for (int pivot = 0; pivot < MOST_POINTS; pivot++) {
                reduced[pivot][pivot] = 0;
            }
            int rank = 0;
            for (int nth = 0; nth < parts.many(); nth++) {
                for (int point = 0; point < MOST_POINTS; point++) {
                    line[point] = parts.at(nth) >> point & 1;
                }
                rank += isNewLine(modulus) ? 1 : 0;
            }
            return rank;
        }

        private boolean isNewLine(int modulus) {
            for (int pivot = 0; pivot < MOST_POINTS; pivot++) {
                if (line[pivot] != 0 && reduced[pivot][pivot] == 0) {
                    for (int point = 0; point < MOST_POINTS; point++) {
                        reduced[pivot][point] = line[point];
                    }
                    return true;
                }
                if (line[pivot] != 0) {
                    reduceLine(pivot, modulus);
                }
            }
            return false;
        }

        private void reduceLine(int pivot, int modulus) {
            if (modulus <= 0 || pivot < 0 || pivot >= MOST_POINTS) {
                return;
            }
            int own = line[pivot];
            int other = reduced[pivot][pivot];
            for (int point = 0; point < MOST_POINTS; point++) {
                line[point] = Math.floorMod(line[point] * other - own * reduced[pivot][point], modulus);
            }
        }
    }
}
