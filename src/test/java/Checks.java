import java.math.BigInteger;
import java.util.LinkedHashMap;
import java.util.Map;
import java.util.function.IntUnaryOperator;
import java.util.function.Supplier;

/** What the tests by hand share: how an answer is looked at, and how a state is told. */
class Checks {
    static final Class<?> INDEX = IndexOutOfBoundsException.class;
    static final Class<?> ARGUMENT = IllegalArgumentException.class;
    static final Class<?> STATE = IllegalStateException.class;
    static final int NONE = -1;
    static final int NOT_MADE = -2;
    static int wrong = 0;
    static String promise = "";

    interface Call {
        long run();
    }

    /** A call on an object. */
    interface CallOn {
        long on(Transversary x);
    }

    /** A call on an object, of which one number is still to be told. */
    interface CallWith {
        long on(Transversary x, int number);
    }

    static void finish(String test) {
        System.out.println(test + ": " + (wrong == 0 ? "all answers are as due" : wrong + " answers are not as due"));
        if (wrong != 0) {
            System.exit(1);
        }
    }

    private static void tellWrong(String call, Object got, Object want) {
        wrong++;
        System.out.println(promise + ": " + call + " answered " + got + ", due is " + want);
    }

    static void due(String call, long got, long want) {
        if (got != want) {
            tellWrong(call, got, want);
        }
    }

    static void dueText(String call, String got, String want) {
        if (!want.equals(got)) {
            tellWrong(call, got, want);
        }
    }

    static void dueThrow(String call, Class<?> want, Call run) {
        String got;
        try {
            got = String.valueOf(run.run());
        } catch (RuntimeException e) {
            got = e.getClass() == want ? null : e.toString();
        }
        if (got != null) {
            tellWrong(call, got, want);
        }
    }

    static void dueNoThrow(String call, Call run) {
        try {
            run.run();
        } catch (RuntimeException e) {
            tellWrong(call, e, "an answer");
        }
    }

    static Transversary of(int points, int... sets) {
        Transversary x = new Transversary();
        x.ground(points);
        tell(x, sets);
        return x;
    }

    static int tell(Transversary x, int... sets) {
        int family = x.family();
        for (int set : sets) {
            x.add(family, set);
        }
        return family;
    }

    /** Adds so many SETS, from 0 on. */
    static int tellFirst(Transversary x, int many) {
        int family = x.family();
        for (int set = 0; set < many; set++) {
            x.add(family, set);
        }
        return family;
    }

    /** Adds all SETS of that SIZE. */
    static void addOfSize(Transversary x, int family, int points, int size) {
        for (int set = 0; set < 1 << points; set++) {
            if (Integer.bitCount(set) == size) {
                x.add(family, set);
            }
        }
    }

    static void dieAll(Transversary x, int points) {
        for (int point = 0; point < points; point++) {
            x.die(point, true);
        }
    }

    static String partsOf(Transversary x, int family) {
        StringBuilder text = new StringBuilder();
        for (int nth = 0; x.part(family, nth) != NONE; nth++) {
            text.append(nth == 0 ? "" : " ").append(x.part(family, nth));
        }
        return text.toString();
    }

    /**
     * All that can be seen of an object: its checksum, WEIGHTS and deaths, and the
     * SETS themselves, as all POINTS are ALIVE in the end. What is looked at changes.
     */
    static String look(Transversary x) {
        StringBuilder text = new StringBuilder("digest ").append(x.digest()).append(" sound ").append(x.isSound());
        int points = countBelow(point -> x.die(point, false), 8, text.append(" alive"));
        text.append(" points ").append(points);
        countBelow(point -> x.weigh(point, 1), points, text.append(" weights"));
        int families = countBelow(family -> x.ofFamily(family, 0), 6, text.append(" sets"));
        for (int family = 0; family < families; family++) {
            text.append(" family ").append(partsOf(x, family));
        }
        return text.toString();
    }

    /** Calls with numbers from 0 on, until one is refused; tells the answers, and how many there are. */
    private static int countBelow(IntUnaryOperator call, int most, StringBuilder text) {
        for (int number = 0; number < most; number++) {
            try {
                text.append(' ').append(call.applyAsInt(number));
            } catch (IndexOutOfBoundsException e) {
                return number;
            }
        }
        return most;
    }

    /** The call may not change anything that can be seen. */
    static void dueUnchanged(String call, Supplier<Transversary> state, CallOn run) {
        Transversary x = state.get();
        try {
            run.on(x);
        } catch (RuntimeException e) {
            // whether it may throw is looked at elsewhere
        }
        dueText("what can be seen behind " + call, look(x), look(state.get()));
    }

    /** Each call that asks of a FAMILY and makes none, with what else is right for three POINTS or more. */
    static Map<String, CallWith> answersByFamily() {
        Map<String, CallWith> calls = new LinkedHashMap<>();
        calls.put("18 ofFamily(?, 7)", (x, family) -> x.ofFamily(family, 7));
        calls.put("18 ofFamily(?, 9)", (x, family) -> x.ofFamily(family, 9));
        calls.put("19 part(?, 0)", (x, family) -> x.part(family, 0));
        calls.put("20 cover(?, 2)", (x, family) -> x.cover(family, 2));
        calls.put("20 cover(?, 3)", (x, family) -> x.cover(family, 3));
        calls.put("21 price(?, false)", (x, family) -> x.price(family, false));
        calls.put("21 price(?, true)", (x, family) -> x.price(family, true));
        calls.put("22 dual(?, 0)", (x, family) -> x.dual(family, 0));
        calls.put("22 dual(0, ?)", (x, family) -> x.dual(0, family));
        calls.put("23 ring(?, false)", (x, family) -> x.ring(family, false));
        calls.put("23 ring(?, true)", (x, family) -> x.ring(family, true));
        calls.put("24 game(?)", (x, family) -> x.game(family));
        calls.put("25 repair(?, 6, 1)", (x, family) -> x.repair(family, 6, 1));
        calls.put("26 flower(?, 0)", (x, family) -> x.flower(family, 0));
        calls.put("27 rich(?, 1)", (x, family) -> x.rich(family, 1));
        calls.put("28 growth(?, 2)", (x, family) -> x.growth(family, 2));
        calls.put("29 net(?, 2)", (x, family) -> x.net(family, 2));
        calls.put("30 fits(?, 1, 2)", (x, family) -> x.fits(family, 1, 2));
        calls.put("33 even(?, 1)", (x, family) -> x.even(family, 1));
        calls.put("34 colours(?)", (x, family) -> x.colours(family));
        calls.put("35 ways(?, 3, 1)", (x, family) -> x.ways(family, 3, 1));
        calls.put("36 resample(?, 7)", (x, family) -> x.resample(family, 7));
        calls.put("37 joins(?, 1)", (x, family) -> x.joins(family, 1));
        calls.put("37 joins(?, 3)", (x, family) -> x.joins(family, 3));
        calls.put("38 chains(?, 0)", (x, family) -> x.chains(family, 0));
        calls.put("38 chains(?, 1)", (x, family) -> x.chains(family, 1));
        calls.put("38 chains(?, 2)", (x, family) -> x.chains(family, 2));
        calls.put("40 faces(?, 1, true)", (x, family) -> x.faces(family, 1, true));
        calls.put("40 faces(?, 0, true)", (x, family) -> x.faces(family, 0, true));
        calls.put("41 collapse(?, 0)", (x, family) -> x.collapse(family, 0));
        calls.put("42 rank(?, 2)", (x, family) -> x.rank(family, 2));
        calls.put("43 outcome(?, 5)", (x, family) -> x.outcome(family, 5));
        calls.put("42 rank(?, 3)", (x, family) -> x.rank(family, 3));
        calls.put("44 tells(?, 0)", (x, family) -> x.tells(family, 0));
        return calls;
    }

    /** The checksum of these numbers: whole first, and then what 64 bits hold of it. */
    static long digestOf(long... numbers) {
        return wholeDigestOf(numbers).longValue();
    }

    static BigInteger wholeDigestOf(long... numbers) {
        BigInteger d = BigInteger.valueOf(58272);
        for (long number : numbers) {
            d = d.multiply(BigInteger.valueOf(31)).add(BigInteger.valueOf(number));
        }
        return d;
    }
}
