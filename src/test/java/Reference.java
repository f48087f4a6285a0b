import java.math.BigInteger;
import java.util.ArrayList;
import java.util.Arrays;
import java.util.HashSet;
import java.util.List;
import java.util.Set;
import java.util.TreeSet;

/**
 * The document once more, word by word and without regard to speed: what the
 * program answers is compared with this. Where there is a choice it goes another
 * way than the program (by all orders, all choices, all SETS).
 */
final class Reference {
    static final int NONE = -1;

    int n;
    int[] weight;
    boolean[] dead;
    List<TreeSet<Integer>> families;

    Reference() {
        ground(4);
    }

    // ---- the ground

    int ground(int points) {
        argument(points >= 2 && points <= 7);
        n = points;
        weight = new int[n];
        Arrays.fill(weight, 1);
        dead = new boolean[n];
        families = new ArrayList<>();
        return 1 << n;
    }

    int weigh(int point, int w) {
        index(point >= 0 && point < n);
        argument(w >= 1 && w <= 9);
        int before = weight[point];
        weight[point] = w;
        return before;
    }

    int die(int point, boolean isDead) {
        index(point >= 0 && point < n);
        dead[point] = isDead;
        return size(alive());
    }

    int family() {
        state(families.size() < 5);
        families.add(new TreeSet<>());
        return families.size() - 1;
    }

    int add(int family, int set) {
        index(isFamily(family));
        argument(isSet(set));
        TreeSet<Integer> all = families.get(family);
        state(!all.contains(set) && all.size() < 40);
        all.add(set);
        return blockers(parts(family)).size();
    }

    int drop(int family, int set) {
        index(isFamily(family));
        argument(isSet(set));
        state(families.get(family).contains(set));
        families.get(family).remove(set);
        return blockers(parts(family)).size();
    }

    int sow(int many, int much, int seed) {
        argument(many >= 1 && many <= 40 && much >= 1 && much <= 3 && seed >= 0 && seed <= 99);
        state(families.size() < 5);
        TreeSet<Integer> sown = new TreeSet<>();
        Row row = new Row(seed);
        for (int time = 0; time < many; time++) {
            int set = 0;
            for (int p = 0; p < n; p++) {
                if (row.next() % 4 < much) {
                    set += 1 << p;
                }
            }
            sown.add(set);
        }
        families.add(sown);
        return sown.size();
    }

    // ---- families out of others

    int least(int family) {
        index(isFamily(family));
        return keep(leastOf(parts(family)));
    }

    int blocker(int family) {
        index(isFamily(family));
        return keep(blockers(parts(family)));
    }

    int minor(int family, int point, boolean isLink) {
        index(isFamily(family));
        index(point >= 0 && point < n);
        TreeSet<Integer> out = new TreeSet<>();
        for (int p : parts(family)) {
            boolean has = (p >> point & 1) == 1;
            if (isLink && has) {
                out.add(p - (1 << point));
            }
            if (!isLink && !has) {
                out.add(p);
            }
        }
        return keep(out);
    }

    int mix(int one, int other, int how) {
        index(isFamily(one) && isFamily(other));
        argument(how >= 0 && how <= 2);
        TreeSet<Integer> out = new TreeSet<>();
        for (int p : parts(one)) {
            for (int q : parts(other)) {
                out.add(how == 0 ? p | q : how == 1 ? p & q : (p | q) - (p & q));
            }
        }
        return keep(out);
    }

    int shadow(int family) {
        index(isFamily(family));
        TreeSet<Integer> out = new TreeSet<>();
        for (int p : parts(family)) {
            for (int v : pointsOf(p)) {
                out.add(p - (1 << v));
            }
        }
        return keep(out);
    }

    int press(int family, int from, int to) {
        index(isFamily(family));
        index(from >= 0 && from < n && to >= 0 && to < n);
        argument(from != to && !dead[from] && !dead[to]);
        return keep(pressed(parts(family), from, to));
    }

    int settle(int family) {
        index(isFamily(family));
        TreeSet<Integer> now = parts(family);
        while (true) {
            TreeSet<Integer> before = now;
            for (int j = 0; j < n; j++) {
                for (int i = j + 1; i < n; i++) {
                    if (!dead[i] && !dead[j]) {
                        now = pressed(now, i, j);
                    }
                }
            }
            if (now.equals(before)) {
                return keep(now);
            }
        }
    }

    int kernel(int family, int most) {
        index(isFamily(family));
        argument(most >= 1 && most <= 6);
        TreeSet<Integer> now = parts(family);
        while (true) {
            int heart = NONE;
            for (int h = 0; h < 1 << n && heart == NONE; h++) {
                if (petals(now, h) > most) {
                    heart = h;
                }
            }
            if (heart == NONE) {
                return keep(now);
            }
            int h = heart;
            now.removeIf(p -> (p & h) == h);
            now.add(h);
        }
    }

    int turn(int family) {
        index(isFamily(family));
        TreeSet<Integer> out = new TreeSet<>();
        for (int p : parts(family)) {
            out.add(alive() - p);
        }
        return keep(out);
    }

    // ---- covers, packings, prices

    int ofFamily(int family, int what) {
        index(isFamily(family));
        argument(what >= 0 && what <= 9);
        TreeSet<Integer> parts = parts(family);
        int answer = what == 2 || what == 3 ? NONE : 0;
        switch (what) {
            case 0:
                return families.get(family).size();
            case 1:
                return parts.size();
            case 2:
                for (int p : parts) {
                    answer = Math.max(answer, size(p));
                }
                return answer;
            case 3:
                for (int p : parts) {
                    answer = answer == NONE ? size(p) : Math.min(answer, size(p));
                }
                return answer;
            case 4:
                for (int v : pointsOf(alive())) {
                    int having = 0;
                    for (int p : parts) {
                        having += p >> v & 1;
                    }
                    answer = Math.max(answer, having);
                }
                return answer;
            case 5:
                for (int p : parts) {
                    answer |= p;
                }
                return answer;
            case 6:
                return leastOf(parts).size();
            case 7:
                return blockers(parts).size();
            case 8:
                for (int p : parts) {
                    for (int q : parts) {
                        if (p != q && (p & q) == 0) {
                            return 0;
                        }
                    }
                }
                return 1;
            default:
                Set<Integer> numbers = new HashSet<>();
                for (int p : parts) {
                    for (int q : parts) {
                        if (p != q) {
                            numbers.add(size(p & q));
                        }
                    }
                }
                for (int k : numbers) {
                    answer += 1 << k;
                }
                return answer;
        }
    }

    int part(int family, int nth) {
        index(isFamily(family));
        argument(nth >= 0);
        List<Integer> row = new ArrayList<>(parts(family));
        return nth < row.size() ? row.get(nth) : NONE;
    }

    int cover(int family, int what) {
        index(isFamily(family));
        argument(what >= 0 && what <= 3);
        TreeSet<Integer> parts = parts(family);
        if (what == 3) {
            return packing(new ArrayList<>(parts), 0, 0);
        }
        if (parts.contains(0)) {
            return NONE;
        }
        if (what == 2) {
            return greedy(parts);
        }
        int best = NONE;
        for (int x : subsets(alive())) {
            if (meetsAll(x, parts) && (best == NONE || weightOf(x) < weightOf(best))) {
                best = x;
            }
        }
        return what == 1 ? best : weightOf(best);
    }

    private int greedy(TreeSet<Integer> parts) {
        int set = 0;
        while (!meetsAll(set, parts)) {
            int best = NONE;
            double bestWorth = -1;
            for (int v : pointsOf(alive())) {
                int gain = 0;
                for (int p : parts) {
                    if ((p & set) == 0 && (p >> v & 1) == 1) {
                        gain++;
                    }
                }
                // 5 * 7 * 8 * 9: a common multiple of all WEIGHTS, so this is exact
                double worth = gain * (2520 / weight[v]);
                if (worth > bestWorth) {
                    best = v;
                    bestWorth = worth;
                }
            }
            set |= 1 << best;
        }
        return set;
    }

    int price(int family, boolean isUnder) {
        index(isFamily(family));
        TreeSet<Integer> parts = parts(family);
        if (parts.contains(0)) {
            return NONE;
        }
        Fraction price = new Prices(parts, weight).best();
        return (isUnder ? price.under : price.above).intValueExact();
    }

    /** Whether all choices of bounds can be tried in a short time. */
    boolean canPrice(int family) {
        return !isFamily(family) || leastOf(parts(family)).size() <= (n <= 5 ? 12 : 10);
    }

    boolean canPriceAll() {
        for (int f = 0; f < families.size(); f++) {
            if (!canPrice(f)) {
                return false;
            }
        }
        return true;
    }

    int dual(int one, int other) {
        index(isFamily(one) && isFamily(other));
        TreeSet<Integer> left = leastOf(parts(other));
        TreeSet<Integer> right = blockers(parts(one));
        for (int x = 0; x < 1 << n; x++) {
            if (left.contains(x) ^ right.contains(x)) {
                return x;
            }
        }
        return NONE;
    }

    int ring(int family, boolean isKnot) {
        index(isFamily(family));
        TreeSet<Integer> parts = parts(family);
        for (int x = 0; x < 1 << n; x++) {
            if (isKnot ? (x & ~alive()) == 0 && isKnot(parts, x) : isRing(parts, x)) {
                return x;
            }
        }
        return NONE;
    }

    private boolean isRing(TreeSet<Integer> parts, int x) {
        List<Integer> points = pointsOf(x);
        if (points.size() < 3 || points.size() % 2 == 0) {
            return false;
        }
        Set<Integer> twos = new HashSet<>();
        for (int p : parts) {
            if (size(p & x) == 2) {
                twos.add(p & x);
            }
        }
        for (List<Integer> order : orders(points)) {
            boolean isRing = true;
            for (int i = 0; i < order.size() && isRing; i++) {
                isRing = twos.contains(1 << order.get(i) | 1 << order.get((i + 1) % order.size()));
            }
            if (isRing) {
                return true;
            }
        }
        return false;
    }

    private boolean isKnot(TreeSet<Integer> parts, int x) {
        List<Integer> inside = new ArrayList<>();
        for (int p : parts) {
            if (p != 0 && (p & ~x) == 0) {
                inside.add(p);
            }
        }
        int most = packing(inside, 0, 0);
        for (int y : subsets(x)) {
            if (meetsAll(y, inside) && size(y) <= most) {
                return false;
            }
        }
        return true;
    }

    int game(int family) {
        index(isFamily(family));
        TreeSet<Integer> parts = parts(family);
        for (int v : pointsOf(alive())) {
            if (wins(parts, 1 << v, 0, false)) {
                return v;
            }
        }
        return NONE;
    }

    private boolean wins(TreeSet<Integer> parts, int mine, int others, boolean isMyTurn) {
        List<Integer> free = pointsOf(alive() & ~mine & ~others);
        if (free.isEmpty()) {
            return has(parts, mine);
        }
        for (int v : free) {
            boolean wins = isMyTurn ? wins(parts, mine | 1 << v, others, false)
                    : wins(parts, mine, others | 1 << v, true);
            if (wins == isMyTurn) {
                return isMyTurn;
            }
        }
        return !isMyTurn;
    }

    private static boolean has(TreeSet<Integer> parts, int mine) {
        for (int p : parts) {
            if ((p & mine) == p) {
                return true;
            }
        }
        return false;
    }

    int repair(int family, int set, int point) {
        index(isFamily(family));
        index(point >= 0 && point < n);
        argument(isSet(set) && (set & ~alive()) == 0 && (set >> point & 1) == 1);
        TreeSet<Integer> parts = parts(family);
        int best = NONE;
        for (int x : subsets(alive())) {
            if ((x >> point & 1) == 0 && meetsAll(x, parts)
                    && (best == NONE || size(x ^ set) < size(best ^ set))) {
                best = x;
            }
        }
        return best;
    }

    // ---- flowers, samples

    int flower(int family, int what) {
        index(isFamily(family));
        argument(what == 0 || what == 1);
        TreeSet<Integer> parts = parts(family);
        int most = 0;
        int heart = NONE;
        for (int h = 0; h < 1 << n; h++) {
            if (petals(parts, h) > most) {
                most = petals(parts, h);
                heart = h;
            }
        }
        return what == 0 ? most : heart;
    }

    int rich(int family, int what) {
        index(isFamily(family));
        argument(what == 0 || what == 1);
        int greatest = NONE;
        int count = 0;
        for (int x : subsets(alive())) {
            if (traces(parts(family), x).equals(new TreeSet<>(subsets(x)))) {
                greatest = Math.max(greatest, size(x));
                count++;
            }
        }
        return what == 0 ? greatest : count;
    }

    int growth(int family, int s) {
        index(isFamily(family));
        argument(s >= 0 && s <= 7);
        int most = 0;
        for (int x : subsets(alive())) {
            if (size(x) == s) {
                most = Math.max(most, traces(parts(family), x).size());
            }
        }
        return most;
    }

    int net(int family, int s) {
        index(isFamily(family));
        argument(s >= 0 && s <= 7);
        TreeSet<Integer> parts = parts(family);
        parts.removeIf(p -> size(p) < s);
        int best = NONE;
        for (int x : subsets(alive())) {
            if (meetsAll(x, parts) && (best == NONE || weightOf(x) < weightOf(best))) {
                best = x;
            }
        }
        return best;
    }

    int fits(int family, int yes, int no) {
        index(isFamily(family));
        argument(isSet(yes) && isSet(no));
        int count = 0;
        for (int p : parts(family)) {
            boolean fits = true;
            for (int v : pointsOf(alive())) {
                fits &= (yes >> v & 1) == 0 || (p >> v & 1) == 1;
                fits &= (no >> v & 1) == 0 || (p >> v & 1) == 0;
            }
            count += fits ? 1 : 0;
        }
        return count;
    }

    int leastShadow(int many, int rank) {
        argument(many >= 1 && many <= 500 && rank >= 1 && rank <= 7);
        long sum = 0;
        for (int[] term : terms(many, rank)) {
            sum += outOf(term[0], term[1] - 1);
        }
        return (int) sum;
    }

    String cascade(int many, int rank) {
        argument(many >= 1 && many <= 500 && rank >= 1 && rank <= 7);
        List<String> texts = new ArrayList<>();
        for (int[] term : terms(many, rank)) {
            texts.add("C(" + term[0] + "," + term[1] + ")");
        }
        return String.join("+", texts);
    }

    private static List<int[]> terms(int many, int rank) {
        List<int[]> terms = new ArrayList<>();
        long left = many;
        for (int k = rank; left > 0; k--) {
            int a = 0;
            for (int x = 0; x <= 501; x++) {
                if (outOf(x, k) <= left) {
                    a = x;
                }
            }
            terms.add(new int[] {a, k});
            left -= outOf(a, k);
        }
        return terms;
    }

    // ---- signs, colours, trees

    int even(int family, int what) {
        index(isFamily(family));
        argument(what == 0 || what == 1);
        int best = NONE;
        int bestTilt = Integer.MAX_VALUE;
        for (int x : subsets(alive())) {
            int tilt = 0;
            for (int p : parts(family)) {
                int sum = 0;
                for (int v : pointsOf(p)) {
                    sum += (x >> v & 1) == 1 ? 1 : -1;
                }
                tilt = Math.max(tilt, Math.abs(sum));
            }
            if (tilt < bestTilt) {
                best = x;
                bestTilt = tilt;
            }
        }
        return what == 0 ? bestTilt : best;
    }

    int colours(int family) {
        index(isFamily(family));
        TreeSet<Integer> parts = parts(family);
        List<Integer> points = pointsOf(alive());
        if (points.isEmpty()) {
            return 0;
        }
        for (int many = 1;; many++) {
            long all = 1;
            for (int i = 0; i < points.size(); i++) {
                all *= many;
            }
            for (long code = 0; code < all; code++) {
                if (isColouring(parts, numbers(points, code, many))) {
                    return many;
                }
            }
        }
    }

    private boolean isColouring(TreeSet<Integer> parts, int[] colour) {
        for (int p : parts) {
            Set<Integer> seen = new HashSet<>();
            for (int v : pointsOf(p)) {
                seen.add(colour[v]);
            }
            if (size(p) >= 2 && seen.size() == 1) {
                return false;
            }
        }
        return true;
    }

    int ways(int family, int q, int r) {
        index(isFamily(family));
        argument(q == 2 || q == 3);
        argument(r >= 0 && r < q);
        TreeSet<Integer> parts = parts(family);
        List<Integer> points = pointsOf(alive());
        int count = 0;
        long all = Math.round(Math.pow(q, points.size()));
        for (long code = 0; code < all; code++) {
            int[] number = numbers(points, code, q);
            boolean isWay = true;
            for (int p : parts) {
                int sum = 0;
                for (int v : pointsOf(p)) {
                    sum += number[v];
                }
                isWay &= sum % q != r;
            }
            count += isWay ? 1 : 0;
        }
        return count;
    }

    private int[] numbers(List<Integer> points, long code, int base) {
        int[] number = new int[n];
        long left = code;
        for (int v : points) {
            number[v] = (int) (left % base);
            left /= base;
        }
        return number;
    }

    int resample(int family, int seed) {
        index(isFamily(family));
        argument(seed >= 0 && seed <= 99);
        TreeSet<Integer> parts = parts(family);
        Row row = new Row(seed);
        int[] number = new int[n];
        for (int v : pointsOf(alive())) {
            number[v] = row.next() % 2;
        }
        int taken = 0;
        while (true) {
            int bad = NONE;
            for (int p : parts) {
                Set<Integer> seen = new HashSet<>();
                for (int v : pointsOf(p)) {
                    seen.add(number[v]);
                }
                if (bad == NONE && size(p) >= 2 && seen.size() == 1) {
                    bad = p;
                }
            }
            if (bad == NONE) {
                break;
            }
            if (taken == 60) {
                return NONE;
            }
            taken++;
            for (int v : pointsOf(bad)) {
                number[v] = row.next() % 2;
            }
        }
        int ones = 0;
        for (int v : pointsOf(alive())) {
            ones += number[v] << v;
        }
        return taken * 128 + ones;
    }

    int joins(int family, int what) {
        index(isFamily(family));
        argument(what >= 0 && what <= 3);
        if (what == 3) {
            return width(parts(family));
        }
        TreeSet<Integer> left = parts(family);
        int steps = 0;
        while (stepOfEars(left)) {
            steps++;
        }
        return what == 0 ? (left.isEmpty() ? 1 : 0) : what == 1 ? steps : left.size();
    }

    private boolean stepOfEars(TreeSet<Integer> left) {
        for (int v : pointsOf(alive())) {
            List<Integer> having = new ArrayList<>();
            for (int s : left) {
                if ((s >> v & 1) == 1) {
                    having.add(s);
                }
            }
            if (having.size() == 1) {
                left.remove(having.get(0));
                left.add(having.get(0) - (1 << v));
                return true;
            }
        }
        for (int s : left) {
            boolean isLow = s == 0;
            for (int t : left) {
                isLow |= isBelow(s, t);
            }
            if (isLow) {
                left.remove(s);
                return true;
            }
        }
        return false;
    }

    private int width(TreeSet<Integer> parts) {
        List<Integer> points = pointsOf(alive());
        if (points.isEmpty()) {
            return 0;
        }
        int best = Integer.MAX_VALUE;
        for (List<Integer> order : orders(points)) {
            boolean[][] near = new boolean[n][n];
            for (int p : parts) {
                for (int u : pointsOf(p)) {
                    for (int v : pointsOf(p)) {
                        near[u][v] |= u != v;
                    }
                }
            }
            best = Math.min(best, widthBy(order, near));
        }
        return best;
    }

    private int widthBy(List<Integer> order, boolean[][] near) {
        int greatest = 0;
        boolean[] isAway = new boolean[n];
        for (int v : order) {
            isAway[v] = true;
            List<Integer> neighbours = new ArrayList<>();
            for (int u = 0; u < n; u++) {
                if (near[v][u] && !isAway[u]) {
                    neighbours.add(u);
                }
            }
            greatest = Math.max(greatest, neighbours.size());
            for (int a : neighbours) {
                for (int b : neighbours) {
                    near[a][b] |= a != b;
                }
            }
        }
        return greatest;
    }

    // ---- chains, holes, fields, tests

    int chains(int family, int what) {
        index(isFamily(family));
        argument(what >= 0 && what <= 3);
        List<Integer> parts = new ArrayList<>(parts(family));
        if (what == 0) {
            int longest = 0;
            for (int p : parts) {
                longest = Math.max(longest, chainUpTo(parts, p));
            }
            return longest;
        }
        if (what == 1) {
            return fewestChains(parts);
        }
        Fraction spread = new Fraction(BigInteger.ZERO, BigInteger.ONE);
        for (int p : leastOf(parts(family))) {
            spread = spread.plus(new Fraction(BigInteger.ONE, BigInteger.valueOf(outOf(size(alive()), size(p)))));
        }
        return (what == 2 ? spread.above : spread.under).intValueExact();
    }

    private int chainUpTo(List<Integer> parts, int top) {
        int longest = 1;
        for (int p : parts) {
            if (isBelow(p, top)) {
                longest = Math.max(longest, 1 + chainUpTo(parts, p));
            }
        }
        return longest;
    }

    /** By Dilworth: as many as PARTS of which none is BELOW another can be; of many PARTS by ties. */
    private static int fewestChains(List<Integer> parts) {
        if (parts.size() <= 20) {
            return greatestAntichain(parts, 0, new ArrayList<>(), 0);
        }
        int[] lowerOf = new int[parts.size()];
        Arrays.fill(lowerOf, NONE);
        int fewest = parts.size();
        for (int lower = 0; lower < parts.size(); lower++) {
            fewest -= canTie(parts, lower, lowerOf, new boolean[parts.size()]) ? 1 : 0;
        }
        return fewest;
    }

    private static boolean canTie(List<Integer> parts, int lower, int[] lowerOf, boolean[] isSeen) {
        for (int upper = 0; upper < parts.size(); upper++) {
            if (isBelow(parts.get(lower), parts.get(upper)) && !isSeen[upper]) {
                isSeen[upper] = true;
                if (lowerOf[upper] == NONE || canTie(parts, lowerOf[upper], lowerOf, isSeen)) {
                    lowerOf[upper] = lower;
                    return true;
                }
            }
        }
        return false;
    }

    private static int greatestAntichain(List<Integer> parts, int from, List<Integer> taken, int best) {
        int greatest = Math.max(best, taken.size());
        for (int i = from; i < parts.size() && taken.size() + parts.size() - i > greatest; i++) {
            int p = parts.get(i);
            boolean isFree = true;
            for (int t : taken) {
                isFree &= !isBelow(t, p) && !isBelow(p, t);
            }
            if (isFree) {
                taken.add(p);
                greatest = greatestAntichain(parts, i + 1, taken, greatest);
                taken.remove(taken.size() - 1);
            }
        }
        return greatest;
    }

    int bracket(int set, boolean isNext) {
        argument(isSet(set));
        List<Integer> open = new ArrayList<>();
        int lastFree = NONE;
        for (int v = 0; v < n; v++) {
            if ((set >> v & 1) == 0) {
                open.add(v);
            } else if (open.isEmpty()) {
                lastFree = v;
            } else {
                open.remove(open.size() - 1);
            }
        }
        if (isNext) {
            return open.isEmpty() ? NONE : set + (1 << open.get(0));
        }
        return lastFree == NONE ? NONE : set - (1 << lastFree);
    }

    int faces(int family, int dimension, boolean isHole) {
        index(isFamily(family));
        argument(dimension >= 0 && dimension <= 6);
        TreeSet<Integer> faces = facesOf(parts(family));
        int many = ofDimension(faces, dimension).size();
        return isHole ? many - borderRank(faces, dimension) - borderRank(faces, dimension + 1) : many;
    }

    private static List<Integer> ofDimension(TreeSet<Integer> faces, int dimension) {
        List<Integer> out = new ArrayList<>();
        for (int f : faces) {
            if (size(f) == dimension + 1) {
                out.add(f);
            }
        }
        return out;
    }

    private static int borderRank(TreeSet<Integer> faces, int dimension) {
        if (dimension == 0) {
            return 0;
        }
        List<Integer> upper = ofDimension(faces, dimension);
        List<Integer> lower = ofDimension(faces, dimension - 1);
        int[][] table = new int[upper.size()][lower.size()];
        for (int i = 0; i < upper.size(); i++) {
            for (int j = 0; j < lower.size(); j++) {
                table[i][j] = isBelow(lower.get(j), upper.get(i)) ? 1 : 0;
            }
        }
        return rankOf(table, lower.size(), 2);
    }

    int collapse(int family, int what) {
        index(isFamily(family));
        argument(what == 0 || what == 1);
        TreeSet<Integer> faces = facesOf(parts(family));
        int steps = 0;
        boolean isStep = true;
        while (isStep) {
            isStep = false;
            for (int f : faces) {
                List<Integer> above = new ArrayList<>();
                for (int g : faces) {
                    if (isBelow(f, g)) {
                        above.add(g);
                    }
                }
                if (above.size() == 1) {
                    faces.remove(f);
                    faces.remove(above.get(0));
                    steps++;
                    isStep = true;
                    break;
                }
            }
        }
        return what == 0 ? steps : faces.size();
    }

    int rank(int family, int modulus) {
        index(isFamily(family));
        argument(modulus == 2 || modulus == 3 || modulus == 5);
        List<Integer> parts = new ArrayList<>(parts(family));
        int[][] table = new int[parts.size()][n];
        for (int i = 0; i < parts.size(); i++) {
            for (int v = 0; v < n; v++) {
                table[i][v] = parts.get(i) >> v & 1;
            }
        }
        return rankOf(table, n, modulus);
    }

    /** Column by column, with the row made to begin with 1 and taken from all below. */
    private static int rankOf(int[][] table, int columns, int q) {
        int rank = 0;
        for (int c = 0; c < columns; c++) {
            int found = NONE;
            for (int r = rank; r < table.length && found == NONE; r++) {
                found = table[r][c] != 0 ? r : NONE;
            }
            if (found == NONE) {
                continue;
            }
            int[] row = table[found];
            table[found] = table[rank];
            table[rank] = row;
            int turned = 1;
            while (turned * row[c] % q != 1) {
                turned++;
            }
            for (int r = rank + 1; r < table.length; r++) {
                int factor = table[r][c] * turned % q;
                for (int k = 0; k < columns; k++) {
                    table[r][k] = ((table[r][k] - factor * row[k]) % q + q) % q;
                }
            }
            rank++;
        }
        return rank;
    }

    long outcome(int family, int ill) {
        index(isFamily(family));
        argument(isSet(ill));
        return outcomeOf(parts(family), ill & alive());
    }

    private static long outcomeOf(TreeSet<Integer> parts, int ill) {
        long sum = 0;
        long place = 1;
        for (int p : parts) {
            if ((p & ill) != 0) {
                sum += place;
            }
            place *= 2;
        }
        return sum;
    }

    int tells(int family, int what) {
        index(isFamily(family));
        argument(what == 0 || what == 1);
        TreeSet<Integer> parts = parts(family);
        if (what == 1) {
            return outcomesUpTo(parts, n).size();
        }
        int greatest = 0;
        for (int s = 0; s <= size(alive()); s++) {
            int many = 0;
            for (int x : subsets(alive())) {
                many += size(x) <= s ? 1 : 0;
            }
            if (outcomesUpTo(parts, s).size() == many) {
                greatest = s;
            }
        }
        return greatest;
    }

    private Set<Long> outcomesUpTo(TreeSet<Integer> parts, int s) {
        Set<Long> outcomes = new HashSet<>();
        for (int x : subsets(alive())) {
            if (size(x) <= s) {
                outcomes.add(outcomeOf(parts, x));
            }
        }
        return outcomes;
    }

    boolean isSound() {
        for (int f = 0; f < families.size(); f++) {
            TreeSet<Integer> parts = parts(f);
            if (!blockers(blockers(parts)).equals(leastOf(parts)) || chains(f, 2) > chains(f, 3)) {
                return false;
            }
            int above = price(f, false);
            int under = price(f, true);
            if (under != NONE && (cover(f, 3) * under > above || above > cover(f, 0) * under)) {
                return false;
            }
        }
        return true;
    }

    long digest() {
        List<Long> row = new ArrayList<>();
        row.add((long) size(alive()));
        for (int w : weight) {
            row.add((long) w);
        }
        for (int f = 0; f < families.size(); f++) {
            digestOf(f, row);
        }
        row.add(isSound() ? 1L : 0L);
        long d = 58272;
        for (long v : row) {
            d = d * 31 + v;
        }
        return d;
    }

    private void digestOf(int f, List<Long> row) {
        for (int what = 0; what <= 9; what++) {
            row.add((long) ofFamily(f, what));
        }
        for (int p : parts(f)) {
            row.add((long) p);
        }
        for (int what = 0; what <= 3; what++) {
            row.add((long) cover(f, what));
        }
        int[] middle = {price(f, false), price(f, true), ring(f, false), flower(f, 0), flower(f, 1), rich(f, 0),
            rich(f, 1), even(f, 0), even(f, 1), colours(f), ways(f, 2, 0), joins(f, 0), joins(f, 1), joins(f, 2),
            joins(f, 3), chains(f, 0), chains(f, 1), chains(f, 2), chains(f, 3), faces(f, 0, true),
            faces(f, 1, true), faces(f, 2, true), collapse(f, 0), collapse(f, 1), rank(f, 2), rank(f, 3),
            tells(f, 0), tells(f, 1)};
        for (int v : middle) {
            row.add((long) v);
        }
    }

    // ---- words of the document

    int alive() {
        int alive = 0;
        for (int p = 0; p < n; p++) {
            alive += dead[p] ? 0 : 1 << p;
        }
        return alive;
    }

    TreeSet<Integer> parts(int family) {
        TreeSet<Integer> parts = new TreeSet<>();
        for (int s : families.get(family)) {
            parts.add(s & alive());
        }
        return parts;
    }

    private boolean isFamily(int family) {
        return family >= 0 && family < families.size();
    }

    private boolean isSet(int set) {
        return set >= 0 && set < 1 << n;
    }

    private int keep(TreeSet<Integer> sets) {
        if (sets.size() > 40 || families.size() >= 5) {
            return -2;
        }
        families.add(sets);
        return families.size() - 1;
    }

    private TreeSet<Integer> leastOf(TreeSet<Integer> parts) {
        TreeSet<Integer> out = new TreeSet<>();
        for (int p : parts) {
            boolean isLeast = true;
            for (int q : parts) {
                isLeast &= !isBelow(q, p);
            }
            if (isLeast) {
                out.add(p);
            }
        }
        return out;
    }

    private TreeSet<Integer> blockers(TreeSet<Integer> parts) {
        TreeSet<Integer> covers = new TreeSet<>();
        for (int x : subsets(alive())) {
            if (meetsAll(x, parts)) {
                covers.add(x);
            }
        }
        return leastOf(covers);
    }

    private static boolean meetsAll(int x, Iterable<Integer> parts) {
        for (int p : parts) {
            if ((p & x) == 0) {
                return false;
            }
        }
        return true;
    }

    private TreeSet<Integer> pressed(TreeSet<Integer> parts, int i, int j) {
        TreeSet<Integer> out = new TreeSet<>();
        for (int p : parts) {
            int moved = p - (1 << i) + (1 << j);
            boolean moves = (p >> i & 1) == 1 && (p >> j & 1) == 0 && !parts.contains(moved);
            out.add(moves ? moved : p);
        }
        return out;
    }

    private static int petals(TreeSet<Integer> parts, int h) {
        List<Integer> besides = new ArrayList<>();
        for (int p : parts) {
            if ((p & h) == h) {
                besides.add(p - h);
            }
        }
        return packing(besides, 0, 0);
    }

    /** The most SETS from there on that are APART from each other and from what is taken. */
    private static int packing(List<Integer> sets, int from, int taken) {
        int most = 0;
        for (int i = from; i < sets.size(); i++) {
            if ((sets.get(i) & taken) == 0) {
                most = Math.max(most, 1 + packing(sets, i + 1, taken | sets.get(i)));
            }
        }
        return most;
    }

    private static TreeSet<Integer> traces(TreeSet<Integer> parts, int x) {
        TreeSet<Integer> out = new TreeSet<>();
        for (int p : parts) {
            out.add(p & x);
        }
        return out;
    }

    private static TreeSet<Integer> facesOf(TreeSet<Integer> parts) {
        TreeSet<Integer> out = new TreeSet<>();
        for (int p : parts) {
            out.addAll(subsets(p));
        }
        out.remove(0);
        return out;
    }

    private int weightOf(int set) {
        int sum = 0;
        for (int v : pointsOf(set)) {
            sum += weight[v];
        }
        return sum;
    }

    static boolean isBelow(int s, int t) {
        return s != t && (s | t) == t;
    }

    static int size(int set) {
        return pointsOf(set).size();
    }

    static List<Integer> pointsOf(int set) {
        List<Integer> out = new ArrayList<>();
        for (int v = 0; v < 31; v++) {
            if ((set >> v & 1) == 1) {
                out.add(v);
            }
        }
        return out;
    }

    static List<Integer> subsets(int set) {
        List<Integer> out = new ArrayList<>();
        for (int x = 0; x <= set; x++) {
            if ((x | set) == set) {
                out.add(x);
            }
        }
        return out;
    }

    static List<List<Integer>> orders(List<Integer> points) {
        List<List<Integer>> out = new ArrayList<>();
        if (points.isEmpty()) {
            out.add(new ArrayList<>());
            return out;
        }
        for (int i = 0; i < points.size(); i++) {
            List<Integer> rest = new ArrayList<>(points);
            int first = rest.remove(i);
            for (List<Integer> order : orders(rest)) {
                order.add(0, first);
                out.add(order);
            }
        }
        return out;
    }

    /** By Pascal's triangle. */
    static long outOf(int from, int many) {
        if (many == 0) {
            return 1;
        }
        long[] line = new long[many + 1];
        line[0] = 1;
        for (int row = 1; row <= from; row++) {
            for (int k = many; k >= 1; k--) {
                line[k] += line[k - 1];
            }
        }
        return line[many];
    }

    private static void index(boolean isRight) {
        if (!isRight) {
            throw new IndexOutOfBoundsException();
        }
    }

    private static void argument(boolean isRight) {
        if (!isRight) {
            throw new IllegalArgumentException();
        }
    }

    private static void state(boolean isRight) {
        if (!isRight) {
            throw new IllegalStateException();
        }
    }

    private static final class Row {
        private int number;

        Row(int seed) {
            number = seed;
        }

        int next() {
            number = (41 * number + 23) % 109;
            return number;
        }
    }

    static final class Fraction {
        final BigInteger above;
        final BigInteger under;

        Fraction(BigInteger above, BigInteger under) {
            BigInteger shared = above.gcd(under);
            BigInteger by = under.signum() < 0 ? shared.negate() : shared;
            this.above = above.divide(by);
            this.under = under.divide(by);
        }

        static Fraction of(long number) {
            return new Fraction(BigInteger.valueOf(number), BigInteger.ONE);
        }

        Fraction plus(Fraction o) {
            return new Fraction(above.multiply(o.under).add(o.above.multiply(under)), under.multiply(o.under));
        }

        Fraction minus(Fraction o) {
            return plus(new Fraction(o.above.negate(), o.under));
        }

        Fraction times(Fraction o) {
            return new Fraction(above.multiply(o.above), under.multiply(o.under));
        }

        Fraction over(Fraction o) {
            return new Fraction(above.multiply(o.under), under.multiply(o.above));
        }

        int compare(Fraction o) {
            return above.multiply(o.under).compareTo(o.above.multiply(under));
        }
    }

    /**
     * PRICE from its other side: the least sum of WEIGHT times x. The best x is where
     * as many bounds (a PART's sum is 1, or an x is 0) meet as there are POINTS, so
     * POINT by POINT a bound is taken in, and all choices are tried.
     */
    static final class Prices {
        private final List<Integer> parts = new ArrayList<>();
        private final int[] weight;
        private Fraction best;

        Prices(TreeSet<Integer> all, int[] weight) {
            this.weight = weight;
            for (int p : all) {
                boolean isLeast = true;
                for (int q : all) {
                    isLeast &= !isBelow(q, p);
                }
                if (isLeast) {
                    parts.add(p);
                }
            }
        }

        Fraction best() {
            int union = 0;
            for (int p : parts) {
                union |= p;
            }
            // the POINTS whose x is not 0 carry PARTS alone; on these all bounds are PARTS
            for (int support : subsets(union)) {
                List<Integer> points = pointsOf(support);
                List<Integer> traces = new ArrayList<>();
                boolean isMet = true;
                for (int p : parts) {
                    isMet &= (p & support) != 0;
                    if (!traces.contains(p & support)) {
                        traces.add(p & support);
                    }
                }
                if (isMet) {
                    tryAll(points, traces, 0, new ArrayList<>());
                }
            }
            return best;
        }

        private void tryAll(List<Integer> points, List<Integer> traces, int from, List<Fraction[]> rows) {
            if (rows.size() == points.size()) {
                tryOne(points, traces, rows);
                return;
            }
            for (int i = from; i < traces.size(); i++) {
                Fraction[] row = reduced(points, traces.get(i), rows);
                if (row != null) {
                    rows.add(row);
                    tryAll(points, traces, i + 1, rows);
                    rows.remove(rows.size() - 1);
                }
            }
        }

        /** The bound's row less what the rows ahead tell already; null, if nothing is left. */
        private Fraction[] reduced(List<Integer> points, int trace, List<Fraction[]> rows) {
            int many = points.size();
            Fraction[] row = new Fraction[many + 1];
            for (int c = 0; c < many; c++) {
                row[c] = Fraction.of(trace >> points.get(c) & 1);
            }
            row[many] = Fraction.of(1);
            for (Fraction[] other : rows) {
                int lead = lead(other, many);
                Fraction factor = row[lead].over(other[lead]);
                for (int c = 0; c <= many; c++) {
                    row[c] = row[c].minus(factor.times(other[c]));
                }
            }
            return lead(row, many) == NONE ? null : row;
        }

        private static int lead(Fraction[] row, int many) {
            for (int c = 0; c < many; c++) {
                if (row[c].above.signum() != 0) {
                    return c;
                }
            }
            return NONE;
        }

        private void tryOne(List<Integer> points, List<Integer> traces, List<Fraction[]> rows) {
            int many = points.size();
            Fraction[] x = new Fraction[many];
            for (int r = many - 1; r >= 0; r--) {
                Fraction[] row = rows.get(r);
                int lead = lead(row, many);
                Fraction sum = row[many];
                for (int c = 0; c < many; c++) {
                    if (c != lead && x[c] != null) {
                        sum = sum.minus(row[c].times(x[c]));
                    }
                }
                x[lead] = sum.over(row[lead]);
            }
            Fraction sum = Fraction.of(0);
            for (int c = 0; c < many; c++) {
                if (x[c].above.signum() < 0) {
                    return;
                }
                sum = sum.plus(x[c].times(Fraction.of(weight[points.get(c)])));
            }
            for (int t : traces) {
                Fraction together = Fraction.of(0);
                for (int c = 0; c < many; c++) {
                    together = (t >> points.get(c) & 1) == 1 ? together.plus(x[c]) : together;
                }
                if (together.compare(Fraction.of(1)) < 0) {
                    return;
                }
            }
            if (best == null || sum.compare(best) < 0) {
                best = sum;
            }
        }
    }
}
