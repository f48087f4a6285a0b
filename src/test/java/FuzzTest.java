import java.util.Random;
import java.util.function.Supplier;

/**
 * Runs of calls drawn by fixed seeds, right and wrong ones, on the program and on
 * the Reference: both have to answer the same, or throw the same.
 */
public final class FuzzTest {
    private static final int RUNS = 400;
    private static final int CALLS = 90;
    private static int wrong = 0;

    private final Random random;
    private final int run;
    private final StringBuilder told = new StringBuilder();
    private Transversary program = new Transversary();
    private Reference reference = new Reference();

    private FuzzTest(int run) {
        this.run = run;
        this.random = new Random(7919L * run + 13);
    }

    public static void main(String[] args) {
        int runs = args.length > 0 ? Integer.parseInt(args[0]) : RUNS;
        int first = args.length > 1 ? Integer.parseInt(args[1]) : 0;
        for (int run = first; run < first + runs && wrong < 10; run++) {
            new FuzzTest(run).go();
        }
        System.out.println(wrong == 0 ? "FuzzTest: " + runs + " runs agree" : "FuzzTest: " + wrong + " runs differ");
        if (wrong != 0) {
            System.exit(1);
        }
    }

    private void go() {
        if (random.nextInt(6) != 0) {
            int points = 2 + random.nextInt(6);
            if (!agree("ground(" + points + ")", () -> program.ground(points), () -> reference.ground(points))) {
                return;
            }
        }
        for (int call = 0; call < CALLS; call++) {
            if (!one(random.nextInt(64))) {
                return;
            }
        }
        if (reference.canPriceAll()) {
            agree("digest()", () -> program.digest(), () -> reference.digest());
        }
    }

    private boolean agree(String call, Supplier<Object> one, Supplier<Object> other) {
        String got = answer(one);
        String due = answer(other);
        told.append(call).append(" = ").append(due).append("; ");
        if (got.equals(due)) {
            return true;
        }
        wrong++;
        System.out.println("run " + run + ": " + call + " answered " + got + ", due is " + due + " behind " + told);
        return false;
    }

    private static String answer(Supplier<Object> call) {
        try {
            return String.valueOf(call.get());
        } catch (RuntimeException e) {
            return e.getClass().getSimpleName();
        }
    }

    /** Mostly what is right, at times a little below or above. */
    private int near(int smallest, int greatest) {
        return random.nextInt(12) != 0 ? smallest + random.nextInt(Math.max(1, greatest - smallest + 1))
                : random.nextInt(3) != 0 ? smallest - 2 + random.nextInt(greatest - smallest + 5)
                : new int[] {Integer.MIN_VALUE, Integer.MAX_VALUE, -1, 128, 1 << 20}[random.nextInt(5)];
    }

    private int nearFamily() {
        return near(0, Math.max(0, reference.families.size() - 1));
    }

    private int nearPoint() {
        return near(0, reference.n - 1);
    }

    private int nearSet() {
        int set = near(0, (1 << reference.n) - 1);
        return random.nextInt(3) == 0 && set >= 0 ? set & reference.alive() : set;
    }

    private boolean one(int kind) {
        return kind < 22 ? oneOfChanges(kind) : kind < 43 ? oneOfAnswers(kind) : oneOfLaterAnswers(kind);
    }

    private boolean oneOfChanges(int kind) {
        int f = nearFamily();
        int g = nearFamily();
        int p = nearPoint();
        int q = nearPoint();
        int s = nearSet();
        boolean b = random.nextBoolean();
        switch (kind) {
            case 0:
                int w = near(1, 9);
                return agree("weigh(" + p + ", " + w + ")", () -> program.weigh(p, w), () -> reference.weigh(p, w));
            case 1:
                boolean dead = random.nextInt(3) == 0;
                return agree("die(" + p + ", " + dead + ")", () -> program.die(p, dead), () -> reference.die(p, dead));
            case 2:
                return agree("family()", () -> program.family(), () -> reference.family());
            case 3:
                int many = near(1, 40);
                int much = near(1, 3);
                int seed = near(0, 99);
                return agree("sow(" + many + ", " + much + ", " + seed + ")",
                        () -> program.sow(many, much, seed), () -> reference.sow(many, much, seed));
            case 4:
            case 5:
            case 6:
            case 7:
            case 8:
                return addMany(f);
            case 9:
                return agree("drop(" + f + ", " + s + ")", () -> program.drop(f, s), () -> reference.drop(f, s));
            case 10:
                return agree("least(" + f + ")", () -> program.least(f), () -> reference.least(f));
            case 11:
                return agree("blocker(" + f + ")", () -> program.blocker(f), () -> reference.blocker(f));
            case 12:
                return agree("minor(" + f + ", " + p + ", " + b + ")",
                        () -> program.minor(f, p, b), () -> reference.minor(f, p, b));
            case 13:
                int how = near(0, 2);
                return agree("mix(" + f + ", " + g + ", " + how + ")",
                        () -> program.mix(f, g, how), () -> reference.mix(f, g, how));
            case 14:
                return agree("shadow(" + f + ")", () -> program.shadow(f), () -> reference.shadow(f));
            case 15:
                return agree("press(" + f + ", " + p + ", " + q + ")",
                        () -> program.press(f, p, q), () -> reference.press(f, p, q));
            case 16:
                return agree("settle(" + f + ")", () -> program.settle(f), () -> reference.settle(f));
            case 17:
                int most = near(1, 6);
                return agree("kernel(" + f + ", " + most + ")",
                        () -> program.kernel(f, most), () -> reference.kernel(f, most));
            case 18:
                return agree("turn(" + f + ")", () -> program.turn(f), () -> reference.turn(f));
            case 19:
                if (random.nextInt(8) != 0) {
                    return true;
                }
                int points = near(2, 7);
                return agree("ground(" + points + ")", () -> program.ground(points), () -> reference.ground(points));
            default:
                return true;
        }
    }

    private boolean addMany(int f) {
        int times = 1 + random.nextInt(random.nextInt(5) == 0 ? 45 : 5);
        for (int time = 0; time < times; time++) {
            int s = nearSet();
            if (!agree("add(" + f + ", " + s + ")", () -> program.add(f, s), () -> reference.add(f, s))) {
                return false;
            }
        }
        return true;
    }

    private boolean oneOfAnswers(int kind) {
        int f = nearFamily();
        int g = nearFamily();
        int p = nearPoint();
        int s = nearSet();
        int t = nearSet();
        int w = near(0, 3);
        int z = near(0, 1);
        int k = near(0, 7);
        boolean b = random.nextBoolean();
        switch (kind) {
            case 22:
            case 23:
                int ten = near(0, 9);
                return agree("ofFamily(" + f + ", " + ten + ")",
                        () -> program.ofFamily(f, ten), () -> reference.ofFamily(f, ten));
            case 24:
                int nth = near(0, 20);
                return agree("part(" + f + ", " + nth + ")", () -> program.part(f, nth), () -> reference.part(f, nth));
            case 25:
            case 26:
                return agree("cover(" + f + ", " + w + ")", () -> program.cover(f, w), () -> reference.cover(f, w));
            case 27:
            case 28:
                return !reference.canPrice(f)
                        || agree("price(" + f + ", " + b + ")", () -> program.price(f, b), () -> reference.price(f, b));
            case 29:
                return agree("dual(" + f + ", " + g + ")", () -> program.dual(f, g), () -> reference.dual(f, g));
            case 30:
            case 31:
                return agree("ring(" + f + ", " + b + ")", () -> program.ring(f, b), () -> reference.ring(f, b));
            case 32:
                return agree("game(" + f + ")", () -> program.game(f), () -> reference.game(f));
            case 33:
            case 34:
                int r = random.nextInt(4) == 0 ? s : s | 1 << (p & 7);
                return agree("repair(" + f + ", " + r + ", " + p + ")",
                        () -> program.repair(f, r, p), () -> reference.repair(f, r, p));
            case 35:
                return agree("flower(" + f + ", " + z + ")", () -> program.flower(f, z), () -> reference.flower(f, z));
            case 36:
                return agree("rich(" + f + ", " + z + ")", () -> program.rich(f, z), () -> reference.rich(f, z));
            case 37:
                return agree("growth(" + f + ", " + k + ")", () -> program.growth(f, k), () -> reference.growth(f, k));
            case 38:
                return agree("net(" + f + ", " + k + ")", () -> program.net(f, k), () -> reference.net(f, k));
            case 39:
                return agree("fits(" + f + ", " + s + ", " + t + ")",
                        () -> program.fits(f, s, t), () -> reference.fits(f, s, t));
            case 40:
                return oneCascade();
            default:
                return true;
        }
    }

    private boolean oneCascade() {
        int many = near(1, 500);
        int rank = near(1, 7);
        return agree("leastShadow(" + many + ", " + rank + ")",
                () -> program.leastShadow(many, rank), () -> reference.leastShadow(many, rank))
            && agree("cascade(" + many + ", " + rank + ")",
                () -> program.cascade(many, rank), () -> reference.cascade(many, rank));
    }

    private boolean oneOfLaterAnswers(int kind) {
        int f = nearFamily();
        int s = nearSet();
        int w = near(0, 3);
        int z = near(0, 1);
        int d = near(0, 6);
        int seed = near(0, 99);
        boolean b = random.nextBoolean();
        switch (kind) {
            case 43:
                return agree("even(" + f + ", " + z + ")", () -> program.even(f, z), () -> reference.even(f, z));
            case 44:
                return agree("colours(" + f + ")", () -> program.colours(f), () -> reference.colours(f));
            case 45:
            case 46:
                int q = near(2, 3);
                int r = near(0, 2);
                return agree("ways(" + f + ", " + q + ", " + r + ")",
                        () -> program.ways(f, q, r), () -> reference.ways(f, q, r));
            case 47:
            case 48:
                return agree("resample(" + f + ", " + seed + ")",
                        () -> program.resample(f, seed), () -> reference.resample(f, seed));
            case 49:
            case 50:
                return agree("joins(" + f + ", " + w + ")", () -> program.joins(f, w), () -> reference.joins(f, w));
            case 51:
            case 52:
                return agree("chains(" + f + ", " + w + ")", () -> program.chains(f, w), () -> reference.chains(f, w));
            case 53:
                return agree("bracket(" + s + ", " + b + ")",
                        () -> program.bracket(s, b), () -> reference.bracket(s, b));
            case 54:
            case 55:
                return agree("faces(" + f + ", " + d + ", " + b + ")",
                        () -> program.faces(f, d, b), () -> reference.faces(f, d, b));
            case 56:
                return agree("collapse(" + f + ", " + z + ")",
                        () -> program.collapse(f, z), () -> reference.collapse(f, z));
            case 57:
            case 58:
                int m = near(2, 5);
                return agree("rank(" + f + ", " + m + ")", () -> program.rank(f, m), () -> reference.rank(f, m));
            case 59:
                return agree("outcome(" + f + ", " + s + ")",
                        () -> program.outcome(f, s), () -> reference.outcome(f, s));
            case 60:
            case 61:
                return agree("tells(" + f + ", " + z + ")", () -> program.tells(f, z), () -> reference.tells(f, z));
            case 62:
                return !reference.canPriceAll()
                        || agree("isSound()", () -> program.isSound(), () -> reference.isSound());
            default:
                return random.nextInt(4) != 0 || !reference.canPriceAll()
                        || agree("digest()", () -> program.digest(), () -> reference.digest());
        }
    }
}
