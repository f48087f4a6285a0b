import java.util.LinkedHashMap;
import java.util.Map;
import java.util.function.Supplier;

/**
 * What is refused: the last value that is allowed and the first that is not, on both
 * sides of each range; of several exceptions the one that is named first; and that a
 * call that is refused, or answers -2, has changed nothing.
 */
public final class RefusalTest extends Checks {
    /** The FAMILIES of told(): 0 to 2; its POINTS: 0 to 5, of which 3 is DEAD; its SETS: 0 to 63. */
    private static final int NO_FAMILY = 3;
    private static final int NO_POINT = 6;
    private static final int NO_SET = 64;
    private static final int DEAD = 3;

    public static void main(String[] args) {
        pointsAndFamilies();
        families();
        makers();
        coversPackingsPrices();
        flowersAndSamples();
        signsColoursTrees();
        chainsHolesFieldsTests();
        whatChangesNothing();
        finish("RefusalTest");
    }

    // ---- states

    private static Transversary told() {
        Transversary x = new Transversary();
        x.ground(6);
        tell(x, 3, 6, 12, 24, 9);
        tell(x, 0, 8, 7, 63);
        x.family();
        x.weigh(1, 3);
        x.weigh(3, 5);
        x.weigh(5, 9);
        x.die(DEAD, true);
        return x;
    }

    /** As told(), with 5 FAMILIES: 3 has 40 SETS, 4 has 39. */
    private static Transversary full() {
        Transversary x = told();
        tellFirst(x, 40);
        tellFirst(x, 39);
        return x;
    }

    private static Transversary ofPoints(int points) {
        Transversary x = new Transversary();
        x.ground(points);
        x.family();
        return x;
    }

    // ---- how a refusal is looked at

    private static void refused(Supplier<Transversary> state, Class<?> want, String call, CallOn run) {
        Transversary x = state.get();
        dueThrow(call, want, () -> run.on(x));
        dueText("what can be seen behind " + call, look(x), look(state.get()));
    }

    private static void refused(Class<?> want, String call, CallOn run) {
        refused(RefusalTest::told, want, call, run);
        refused(RefusalTest::full, want, call + " with 5 FAMILIES", run);
    }

    /** The numbers from first to last are allowed, one below and one above are not, nor what is far. */
    private static void range(Supplier<Transversary> state, Class<?> want, String call, CallWith run,
            int first, int last) {
        for (int number = first; number <= last; number++) {
            int allowed = number;
            Transversary x = state.get();
            dueNoThrow(call.replace("?", "" + number), () -> run.on(x, allowed));
        }
        for (int number : new int[] {first - 1, last + 1, Integer.MIN_VALUE, Integer.MAX_VALUE}) {
            refused(state, want, call.replace("?", "" + number), x -> run.on(x, number));
        }
    }

    private static void range(Class<?> want, String call, CallWith run, int first, int last) {
        range(RefusalTest::told, want, call, run, first, last);
    }

    // ---- promises 2 to 8

    private static void pointsAndFamilies() {
        promise = "2 ground";
        range(ARGUMENT, "ground(?)", (x, number) -> x.ground(number), 2, 7);
        promise = "3 weigh";
        range(INDEX, "weigh(?, 9)", (x, number) -> x.weigh(number, 9), 0, 5);
        range(ARGUMENT, "weigh(5, ?)", (x, number) -> x.weigh(5, number), 1, 9);
        range(ARGUMENT, "weigh(3, ?) of a DEAD POINT", (x, number) -> x.weigh(DEAD, number), 1, 9);
        refused(INDEX, "weigh(6, 0)", x -> x.weigh(NO_POINT, 0));
        refused(INDEX, "weigh(-1, 10)", x -> x.weigh(-1, 10));
        promise = "4 die";
        range(INDEX, "die(?, true)", (x, number) -> x.die(number, true), 0, 5);
        range(INDEX, "die(?, false)", (x, number) -> x.die(number, false), 0, 5);
        for (int points = 2; points <= 7; points++) {
            int most = points;
            range(() -> ofPoints(most), INDEX, "die(?, true) of " + points, (x, number) -> x.die(number, true),
                    0, points - 1);
            range(() -> ofPoints(most), INDEX, "weigh(?, 2) of " + points, (x, number) -> x.weigh(number, 2),
                    0, points - 1);
        }
        range(Transversary::new, INDEX, "die(?, true) anew", (x, number) -> x.die(number, true), 0, 3);
    }

    private static void families() {
        promise = "5 family";
        refused(RefusalTest::full, STATE, "family()", Transversary::family);
        addAndDrop();
        promise = "8 sow";
        range(ARGUMENT, "sow(?, 1, 0)", (x, number) -> x.sow(number, 1, 0), 1, 40);
        range(ARGUMENT, "sow(1, ?, 0)", (x, number) -> x.sow(1, number, 0), 1, 3);
        range(ARGUMENT, "sow(1, 1, ?)", (x, number) -> x.sow(1, 1, number), 0, 99);
        refused(RefusalTest::full, STATE, "sow(1, 1, 0)", x -> x.sow(1, 1, 0));
        refused(RefusalTest::full, STATE, "sow(40, 3, 99)", x -> x.sow(40, 3, 99));
        refused(ARGUMENT, "sow(0, 1, 0)", x -> x.sow(0, 1, 0));
        refused(ARGUMENT, "sow(41, 1, 0)", x -> x.sow(41, 1, 0));
        refused(ARGUMENT, "sow(1, 0, 0)", x -> x.sow(1, 0, 0));
        refused(ARGUMENT, "sow(1, 4, 0)", x -> x.sow(1, 4, 0));
        refused(ARGUMENT, "sow(1, 1, -1)", x -> x.sow(1, 1, -1));
        refused(ARGUMENT, "sow(1, 1, 100)", x -> x.sow(1, 1, 100));
    }

    private static void addAndDrop() {
        promise = "6 add";
        range(ARGUMENT, "add(2, ?)", (x, number) -> x.add(2, number), 0, 63);
        for (int points = 2; points <= 7; points++) {
            int most = points;
            range(() -> ofPoints(most), ARGUMENT, "add(0, ?) of " + points, (x, number) -> x.add(0, number),
                    0, (1 << points) - 1);
        }
        refused(INDEX, "add(-1, 64)", x -> x.add(-1, NO_SET));
        refused(RefusalTest::told, INDEX, "add(3, 64)", x -> x.add(NO_FAMILY, NO_SET));
        refused(RefusalTest::full, INDEX, "add(5, -1)", x -> x.add(5, -1));
        refused(STATE, "add(0, 3) that it has", x -> x.add(0, 3));
        refused(STATE, "add(1, 0) that it has", x -> x.add(1, 0));
        refused(STATE, "add(1, 63) that it has", x -> x.add(1, 63));
        refused(STATE, "add(0, 12) that it has, with a DEAD POINT", x -> x.add(0, 12));
        refused(RefusalTest::full, STATE, "add(3, 40) with 40 SETS", x -> x.add(3, 40));
        refused(RefusalTest::full, STATE, "add(3, 39) with 40 SETS, that it has", x -> x.add(3, 39));
        refused(RefusalTest::full, ARGUMENT, "add(3, 64) with 40 SETS", x -> x.add(3, NO_SET));
        refused(RefusalTest::full, ARGUMENT, "add(3, -1) with 40 SETS", x -> x.add(3, -1));
        due("add(4, 63) with 39 SETS: an empty PART is there", full().add(4, 63), 0);
        refused(RefusalTest::fullAtLast, STATE, "add(4, 62) behind the 40th", x -> x.add(4, 62));
        promise = "7 drop";
        range(() -> of(6, 0, 63, 5), ARGUMENT, "drop(0, ?) of all 64", RefusalTest::addAndDropOne, 0, 63);
        refused(INDEX, "drop(-1, 64)", x -> x.drop(-1, NO_SET));
        refused(RefusalTest::told, INDEX, "drop(3, -1)", x -> x.drop(NO_FAMILY, -1));
        refused(RefusalTest::full, INDEX, "drop(5, 64)", x -> x.drop(5, NO_SET));
        refused(ARGUMENT, "drop(0, 64) that it has not", x -> x.drop(0, NO_SET));
        refused(ARGUMENT, "drop(0, -1) that it has not", x -> x.drop(0, -1));
        refused(STATE, "drop(0, 1) that it has not", x -> x.drop(0, 1));
        refused(STATE, "drop(0, 4), the PART of 12 alone", x -> x.drop(0, 4));
        refused(STATE, "drop(2, 0) without SETS", x -> x.drop(2, 0));
        refused(RefusalTest::full, STATE, "drop(3, 40) with 40 SETS", x -> x.drop(3, 40));
    }

    private static Transversary fullAtLast() {
        Transversary x = full();
        x.add(4, 63);
        return x;
    }

    /** So that each SET that can be told can be dropped. */
    private static long addAndDropOne(Transversary x, int set) {
        if (set > 0 && set < 63 && set != 5) {
            x.add(0, set);
        }
        return x.drop(0, set);
    }

    // ---- promises 9 to 17

    private static void makers() {
        noSuchFamily();
        promise = "11 minor";
        range(INDEX, "minor(0, ?, false)", (x, number) -> x.minor(0, number, false), 0, 5);
        range(INDEX, "minor(0, ?, true)", (x, number) -> x.minor(0, number, true), 0, 5);
        promise = "12 mix";
        range(INDEX, "mix(0, ?, 1)", (x, number) -> x.mix(0, number, 1), 0, 2);
        range(ARGUMENT, "mix(0, 1, ?)", (x, number) -> x.mix(0, 1, number), 0, 2);
        refused(INDEX, "mix(-1, 0, 3)", x -> x.mix(-1, 0, 3));
        refused(INDEX, "mix(0, -1, 3)", x -> x.mix(0, -1, 3));
        refused(RefusalTest::told, INDEX, "mix(0, 3, -1)", x -> x.mix(0, NO_FAMILY, -1));
        refused(ARGUMENT, "mix(0, 1, 3)", x -> x.mix(0, 1, 3));
        refused(ARGUMENT, "mix(0, 1, -1)", x -> x.mix(0, 1, -1));
        press();
        promise = "16 kernel";
        range(ARGUMENT, "kernel(0, ?)", (x, number) -> x.kernel(0, number), 1, 6);
        refused(INDEX, "kernel(-1, 0)", x -> x.kernel(-1, 0));
        refused(RefusalTest::told, INDEX, "kernel(3, 7)", x -> x.kernel(NO_FAMILY, 7));
        refused(ARGUMENT, "kernel(0, 0)", x -> x.kernel(0, 0));
        refused(ARGUMENT, "kernel(0, 7)", x -> x.kernel(0, 7));
        notMade();
    }

    private static void press() {
        promise = "14 press";
        Supplier<Transversary> alive = () -> of(6, 3, 6, 12);
        range(alive, INDEX, "press(0, ?, other)", (x, number) -> x.press(0, number, number == 2 ? 4 : 2), 0, 5);
        range(alive, INDEX, "press(0, other, ?)", (x, number) -> x.press(0, number == 2 ? 4 : 2, number), 0, 5);
        for (int point = 0; point < NO_POINT; point++) {
            int same = point;
            int other = point == 0 ? 5 : 0;
            refused(ARGUMENT, "press of the same " + point, x -> x.press(0, same, same));
            if (point != DEAD) {
                refused(ARGUMENT, "press of a DEAD POINT to " + point, x -> x.press(0, DEAD, same));
                refused(ARGUMENT, "press to a DEAD POINT from " + point, x -> x.press(0, same, DEAD));
                Transversary x = told();
                dueNoThrow("press of " + point, () -> x.press(0, same, other));
            }
        }
        refused(INDEX, "press(-1, 0, 0)", x -> x.press(-1, 0, 0));
        refused(RefusalTest::told, INDEX, "press(3, 1, 3)", x -> x.press(NO_FAMILY, 1, DEAD));
        refused(INDEX, "press(0, 6, 6), the same", x -> x.press(0, NO_POINT, NO_POINT));
        refused(INDEX, "press(0, -1, -1), the same", x -> x.press(0, -1, -1));
        refused(INDEX, "press(0, 3, 6), one DEAD", x -> x.press(0, DEAD, NO_POINT));
        refused(INDEX, "press(0, 6, 3), one DEAD", x -> x.press(0, NO_POINT, DEAD));
        refused(INDEX, "press(0, -1, 3), one DEAD", x -> x.press(0, -1, DEAD));
        refused(INDEX, "press(0, 3, -1), one DEAD", x -> x.press(0, DEAD, -1));
    }

    /** Each call that is asked of a FAMILY, with what else is right. */
    private static Map<String, CallWith> byFamily() {
        Map<String, CallWith> calls = makersByFamily();
        calls.putAll(answersByFamily());
        return calls;
    }

    private static Map<String, CallWith> makersByFamily() {
        Map<String, CallWith> calls = new LinkedHashMap<>();
        calls.put("9 least(?)", (x, family) -> x.least(family));
        calls.put("10 blocker(?)", (x, family) -> x.blocker(family));
        calls.put("11 minor(?, 1, false)", (x, family) -> x.minor(family, 1, false));
        calls.put("11 minor(?, 1, true)", (x, family) -> x.minor(family, 1, true));
        calls.put("12 mix(?, 0, 1)", (x, family) -> x.mix(family, 0, 1));
        calls.put("12 mix(0, ?, 1)", (x, family) -> x.mix(0, family, 1));
        calls.put("13 shadow(?)", (x, family) -> x.shadow(family));
        calls.put("14 press(?, 2, 1)", (x, family) -> x.press(family, 2, 1));
        calls.put("15 settle(?)", (x, family) -> x.settle(family));
        calls.put("16 kernel(?, 2)", (x, family) -> x.kernel(family, 2));
        calls.put("17 turn(?)", (x, family) -> x.turn(family));
        return calls;
    }

    private static void noSuchFamily() {
        Map<String, CallWith> calls = byFamily();
        calls.put("6 add(?, 62)", (x, family) -> x.add(family, family == 3 ? family : 62));
        calls.put("7 drop(?, 3)", (x, family) -> x.drop(family, 3));
        for (Map.Entry<String, CallWith> one : calls.entrySet()) {
            promise = one.getKey();
            CallWith run = one.getValue();
            boolean isChange = promise.contains("add") || promise.contains("drop");
            for (int number : new int[] {-1, 0, 1, 4, 5, Integer.MIN_VALUE, Integer.MAX_VALUE}) {
                refused(Transversary::new, INDEX, number + " in a new object", x -> run.on(x, number));
                refused(RefusalTest::begunAnew, INDEX, number + " behind ground", x -> run.on(x, number));
            }
            if (!isChange) {
                range(RefusalTest::told, INDEX, promise, run, 0, 2);
                range(RefusalTest::full, INDEX, promise, run, 0, 4);
            } else {
                refused(RefusalTest::told, INDEX, promise + " of 3", x -> run.on(x, 3));
                refused(RefusalTest::full, INDEX, promise + " of 5", x -> run.on(x, 5));
                refused(INDEX, promise + " of -1", x -> run.on(x, -1));
            }
        }
    }

    private static Transversary begunAnew() {
        Transversary x = full();
        x.ground(6);
        return x;
    }

    /** -2, and nothing: with 5 FAMILIES, or for more than 40 SETS; but an exception goes ahead of it. */
    private static void notMade() {
        for (Map.Entry<String, CallWith> one : makersByFamily().entrySet()) {
            promise = one.getKey();
            for (int number = 0; number < 5; number++) {
                int family = number;
                notMade(RefusalTest::full, promise + " of " + number, x -> one.getValue().on(x, family));
            }
        }
        promise = "12 mix";
        notMade(RefusalTest::wide, "mix(0, 1, 0) of 41 SETS", x -> x.mix(0, 1, 0));
        notMade(RefusalTest::wide, "mix(1, 0, 0) of 41 SETS", x -> x.mix(1, 0, 0));
        notMade(RefusalTest::wide, "mix(0, 1, 2) of 48 SETS", x -> x.mix(0, 1, 2));
        refused(RefusalTest::wide, ARGUMENT, "mix(0, 1, 3) of many SETS", x -> x.mix(0, 1, 3));
        promise = "13 shadow";
        notMade(RefusalTest::wide, "shadow(2) of 41 SETS", x -> x.shadow(2));
    }

    /** What 0 and 1 have together is 41 SETS, and so many are the SHADOW of 2. */
    private static Transversary wide() {
        Transversary x = of(7, 0, 1, 2, 3, 4, 5, 6, 7);
        tell(x, 0, 8, 16, 24, 32, 47);
        int family = tell(x, 4, 3, 12, 17);
        addOfSize(x, family, 7, 4);
        return x;
    }

    private static void notMade(Supplier<Transversary> state, String call, CallOn run) {
        due(call, run.on(state.get()), NOT_MADE);
        dueUnchanged(call, state, run);
    }

    // ---- promises 18 to 25

    private static void coversPackingsPrices() {
        promise = "18 ofFamily";
        range(ARGUMENT, "ofFamily(0, ?)", (x, number) -> x.ofFamily(0, number), 0, 9);
        refused(INDEX, "ofFamily(-1, 10)", x -> x.ofFamily(-1, 10));
        refused(RefusalTest::told, INDEX, "ofFamily(3, -1)", x -> x.ofFamily(NO_FAMILY, -1));
        promise = "19 part";
        for (int nth : new int[] {0, 4, 5, 40, Integer.MAX_VALUE}) {
            dueNoThrow("part(0, " + nth + ")", () -> told().part(0, nth));
        }
        refused(ARGUMENT, "part(0, -1)", x -> x.part(0, -1));
        refused(ARGUMENT, "part(2, -1) without PARTS", x -> x.part(2, -1));
        refused(ARGUMENT, "part(0, MIN_VALUE)", x -> x.part(0, Integer.MIN_VALUE));
        refused(INDEX, "part(-1, -1)", x -> x.part(-1, -1));
        refused(RefusalTest::told, INDEX, "part(3, -1)", x -> x.part(NO_FAMILY, -1));
        promise = "20 cover";
        range(ARGUMENT, "cover(0, ?)", (x, number) -> x.cover(0, number), 0, 3);
        refused(INDEX, "cover(-1, 4)", x -> x.cover(-1, 4));
        refused(RefusalTest::told, INDEX, "cover(3, -1)", x -> x.cover(NO_FAMILY, -1));
        repair();
    }

    private static void repair() {
        promise = "25 repair";
        for (int point : new int[] {0, 1, 2, 4, 5}) {
            range(ARGUMENT, "repair(0, ?, " + point + ") of SETS that are told", (x, number) ->
                    x.repair(0, number < 0 || number > 63 ? number : number & ~(1 << DEAD) | 1 << point, point), 0, 63);
            refused(ARGUMENT, "repair with a DEAD POINT", x -> x.repair(0, 1 << DEAD | 1 << point, point));
            refused(ARGUMENT, "repair of all", x -> x.repair(0, 63, point));
            refused(ARGUMENT, "repair without that POINT", x -> x.repair(0, 55 & ~(1 << point), point));
            refused(ARGUMENT, "repair of nothing", x -> x.repair(0, 0, point));
            refused(ARGUMENT, "repair of a SET that is no SET", x -> x.repair(0, NO_SET | 1 << point, point));
            refused(ARGUMENT, "repair of a SET below 0", x -> x.repair(0, -1, point));
        }
        range(INDEX, "repair(0, that POINT, ?)", (x, number) ->
                number == DEAD ? 0 : x.repair(0, 1 << number, number), 0, 5);
        refused(ARGUMENT, "repair of the DEAD POINT", x -> x.repair(0, 1 << DEAD, DEAD));
        refused(ARGUMENT, "repair of the DEAD POINT that is not in it", x -> x.repair(0, 1, DEAD));
        refused(INDEX, "repair(-1, -1, 0)", x -> x.repair(-1, -1, 0));
        refused(RefusalTest::told, INDEX, "repair(3, 64, 0)", x -> x.repair(NO_FAMILY, NO_SET, 0));
        refused(RefusalTest::told, INDEX, "repair(3, 8, 1)", x -> x.repair(NO_FAMILY, 8, 1));
        refused(INDEX, "repair(0, 64, 6)", x -> x.repair(0, NO_SET, NO_POINT));
        refused(INDEX, "repair(0, -1, -1)", x -> x.repair(0, -1, -1));
        refused(INDEX, "repair(0, 8, 6)", x -> x.repair(0, 8, NO_POINT));
        refused(INDEX, "repair(0, 1, -1)", x -> x.repair(0, 1, -1));
    }

    // ---- promises 26 to 32

    private static void flowersAndSamples() {
        promise = "26 flower";
        range(ARGUMENT, "flower(0, ?)", (x, number) -> x.flower(0, number), 0, 1);
        refused(INDEX, "flower(-1, 2)", x -> x.flower(-1, 2));
        refused(RefusalTest::told, INDEX, "flower(3, -1)", x -> x.flower(NO_FAMILY, -1));
        promise = "27 rich";
        range(ARGUMENT, "rich(0, ?)", (x, number) -> x.rich(0, number), 0, 1);
        refused(INDEX, "rich(-1, 2)", x -> x.rich(-1, 2));
        refused(RefusalTest::told, INDEX, "rich(3, -1)", x -> x.rich(NO_FAMILY, -1));
        promise = "28 growth";
        range(ARGUMENT, "growth(0, ?)", (x, number) -> x.growth(0, number), 0, 7);
        refused(INDEX, "growth(-1, 8)", x -> x.growth(-1, 8));
        refused(RefusalTest::told, INDEX, "growth(3, -1)", x -> x.growth(NO_FAMILY, -1));
        promise = "29 net";
        range(ARGUMENT, "net(0, ?)", (x, number) -> x.net(0, number), 0, 7);
        refused(INDEX, "net(-1, 8)", x -> x.net(-1, 8));
        refused(RefusalTest::told, INDEX, "net(3, -1)", x -> x.net(NO_FAMILY, -1));
        promise = "30 fits";
        range(ARGUMENT, "fits(0, ?, 0)", (x, number) -> x.fits(0, number, 0), 0, 63);
        range(ARGUMENT, "fits(0, 0, ?)", (x, number) -> x.fits(0, 0, number), 0, 63);
        refused(INDEX, "fits(-1, 64, 64)", x -> x.fits(-1, NO_SET, NO_SET));
        refused(RefusalTest::told, INDEX, "fits(3, -1, -1)", x -> x.fits(NO_FAMILY, -1, -1));
        promise = "31 leastShadow";
        range(ARGUMENT, "leastShadow(?, 3)", (x, number) -> x.leastShadow(number, 3), 1, 500);
        range(ARGUMENT, "leastShadow(9, ?)", (x, number) -> x.leastShadow(9, number), 1, 7);
        promise = "32 cascade";
        range(ARGUMENT, "cascade(?, 3)", (x, number) -> x.cascade(number, 3).length(), 1, 500);
        range(ARGUMENT, "cascade(9, ?)", (x, number) -> x.cascade(9, number).length(), 1, 7);
    }

    // ---- promises 33 to 37

    private static void signsColoursTrees() {
        promise = "33 even";
        range(ARGUMENT, "even(0, ?)", (x, number) -> x.even(0, number), 0, 1);
        refused(INDEX, "even(-1, 2)", x -> x.even(-1, 2));
        refused(RefusalTest::told, INDEX, "even(3, -1)", x -> x.even(NO_FAMILY, -1));
        promise = "35 ways";
        range(ARGUMENT, "ways(0, ?, 0)", (x, number) -> x.ways(0, number, 0), 2, 3);
        range(ARGUMENT, "ways(0, ?, 1)", (x, number) -> x.ways(0, number, 1), 2, 3);
        range(ARGUMENT, "ways(0, 2, ?)", (x, number) -> x.ways(0, 2, number), 0, 1);
        range(ARGUMENT, "ways(0, 3, ?)", (x, number) -> x.ways(0, 3, number), 0, 2);
        refused(INDEX, "ways(-1, 1, 1)", x -> x.ways(-1, 1, 1));
        refused(INDEX, "ways(-1, 2, 2)", x -> x.ways(-1, 2, 2));
        refused(RefusalTest::told, INDEX, "ways(3, 4, 0)", x -> x.ways(NO_FAMILY, 4, 0));
        promise = "36 resample";
        range(ARGUMENT, "resample(0, ?)", (x, number) -> x.resample(0, number), 0, 99);
        refused(INDEX, "resample(-1, 100)", x -> x.resample(-1, 100));
        refused(RefusalTest::told, INDEX, "resample(3, -1)", x -> x.resample(NO_FAMILY, -1));
        promise = "37 joins";
        range(ARGUMENT, "joins(0, ?)", (x, number) -> x.joins(0, number), 0, 3);
        refused(INDEX, "joins(-1, 4)", x -> x.joins(-1, 4));
        refused(RefusalTest::told, INDEX, "joins(3, -1)", x -> x.joins(NO_FAMILY, -1));
    }

    // ---- promises 38 to 44

    private static void chainsHolesFieldsTests() {
        promise = "38 chains";
        range(ARGUMENT, "chains(0, ?)", (x, number) -> x.chains(0, number), 0, 3);
        refused(INDEX, "chains(-1, 4)", x -> x.chains(-1, 4));
        refused(RefusalTest::told, INDEX, "chains(3, -1)", x -> x.chains(NO_FAMILY, -1));
        promise = "39 bracket";
        for (int points = 2; points <= 7; points++) {
            int most = points;
            range(() -> ofPoints(most), ARGUMENT, "bracket(?, true) of " + points,
                    (x, number) -> x.bracket(number, true), 0, (1 << points) - 1);
            range(() -> ofPoints(most), ARGUMENT, "bracket(?, false) of " + points,
                    (x, number) -> x.bracket(number, false), 0, (1 << points) - 1);
        }
        promise = "40 faces";
        range(ARGUMENT, "faces(0, ?, true)", (x, number) -> x.faces(0, number, true), 0, 6);
        range(ARGUMENT, "faces(0, ?, false)", (x, number) -> x.faces(0, number, false), 0, 6);
        refused(INDEX, "faces(-1, 7, true)", x -> x.faces(-1, 7, true));
        refused(RefusalTest::told, INDEX, "faces(3, -1, false)", x -> x.faces(NO_FAMILY, -1, false));
        promise = "41 collapse";
        range(ARGUMENT, "collapse(0, ?)", (x, number) -> x.collapse(0, number), 0, 1);
        refused(INDEX, "collapse(-1, 2)", x -> x.collapse(-1, 2));
        refused(RefusalTest::told, INDEX, "collapse(3, -1)", x -> x.collapse(NO_FAMILY, -1));
        rankOutcomeTells();
    }

    private static void rankOutcomeTells() {
        promise = "42 rank";
        range(ARGUMENT, "rank(0, ?)", (x, number) -> x.rank(0, number), 2, 3);
        range(ARGUMENT, "rank(0, ?)", (x, number) -> x.rank(0, number), 5, 5);
        for (int modulus : new int[] {-5, -3, -2, -1, 0, 7}) {
            refused(ARGUMENT, "rank(0, " + modulus + ")", x -> x.rank(0, modulus));
        }
        refused(INDEX, "rank(-1, 4)", x -> x.rank(-1, 4));
        refused(RefusalTest::told, INDEX, "rank(3, 0)", x -> x.rank(NO_FAMILY, 0));
        promise = "43 outcome";
        range(ARGUMENT, "outcome(0, ?)", (x, number) -> x.outcome(0, number), 0, 63);
        refused(INDEX, "outcome(-1, 64)", x -> x.outcome(-1, NO_SET));
        refused(RefusalTest::told, INDEX, "outcome(3, -1)", x -> x.outcome(NO_FAMILY, -1));
        promise = "44 tells";
        range(ARGUMENT, "tells(0, ?)", (x, number) -> x.tells(0, number), 0, 1);
        refused(INDEX, "tells(-1, 2)", x -> x.tells(-1, 2));
        refused(RefusalTest::told, INDEX, "tells(3, -1)", x -> x.tells(NO_FAMILY, -1));
    }

    /** What only asks changes nothing either, and what is made leaves all that was there. */
    private static void whatChangesNothing() {
        for (Map.Entry<String, CallWith> one : answersByFamily().entrySet()) {
            promise = one.getKey();
            for (int number = 0; number < 5; number++) {
                int family = number;
                dueUnchanged(promise + " of " + number, RefusalTest::full, x -> one.getValue().on(x, family));
            }
        }
        promise = "45 isSound, 46 digest";
        dueUnchanged("isSound()", RefusalTest::full, x -> x.isSound() ? 1 : 0);
        dueUnchanged("digest()", RefusalTest::full, Transversary::digest);
        for (Map.Entry<String, CallWith> one : makersByFamily().entrySet()) {
            promise = one.getKey();
            for (int number = 0; number < NO_FAMILY; number++) {
                Transversary x = told();
                due(promise + " of " + number, one.getValue().on(x, number), NO_FAMILY);
                Transversary y = toldAnd(partsOf(x, NO_FAMILY));
                dueText("what was there behind " + promise + " of " + number, look(x), look(y));
            }
        }
    }

    /** As told(), and a FAMILY of these SETS. */
    private static Transversary toldAnd(String sets) {
        Transversary x = told();
        int family = x.family();
        for (String set : sets.split(" ")) {
            if (!set.isEmpty()) {
                x.add(family, Integer.parseInt(set));
            }
        }
        return x;
    }
}
