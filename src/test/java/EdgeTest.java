import java.util.ArrayList;
import java.util.Arrays;
import java.util.LinkedHashMap;
import java.util.List;
import java.util.Map;
import java.util.function.IntUnaryOperator;
import java.util.function.Supplier;

/**
 * The cases on the edge that the document names, by answers that were found by hand: without
 * PARTS, with an empty PART, without ALIVE POINTS, with 5 FAMILIES, with 40 SETS, with the
 * fewest and the most POINTS, at the ends of a size, and the checksum that wraps around.
 */
public final class EdgeTest extends Checks {
    public static void main(String[] args) {
        noParts();
        onlyTheEmptyPart();
        noAlivePoints();
        noAlivePointsButAPart();
        theEmptyPartAndOthers();
        oneAlivePoint();
        begunAnew();
        deaths();
        fiveFamilies();
        fortySets();
        seedsRow();
        justSoManyMade();
        kernels();
        pressedAndSettled();
        mostAndFewestPoints();
        coversAtTheirEdges();
        ringsAndGames();
        samplesAtTheirEdges();
        cascadesAtTheirEdges();
        coloursAndWays();
        resampleAtItsEnd();
        joinsAndChains();
        brackets();
        facesAndTests();
        askedAgain();
        sound();
        checksums();
        manyCalls();
        exampleOfReadme();
        finish("EdgeTest");
    }

    // ---- how answers are looked at

    /** The answers for the numbers from 0 on. */
    private static void dueRow(String call, Transversary x, CallWith run, long... want) {
        for (int number = 0; number < want.length; number++) {
            due(call.replace("?", "" + number), run.on(x, number), want[number]);
        }
    }

    private static void dueMade(String call, Supplier<Transversary> state, CallOn run, String want) {
        Transversary x = state.get();
        int family = (int) run.on(x);
        dueText(call, family < 0 ? "nothing: " + family : partsOf(x, family), want);
    }

    /** What each maker makes of FAMILY 0. */
    private static void dueMakers(Supplier<Transversary> state, String... want) {
        Map<String, CallOn> makers = new LinkedHashMap<>();
        makers.put("least(0)", x -> x.least(0));
        makers.put("blocker(0)", x -> x.blocker(0));
        makers.put("minor(0, 0, false)", x -> x.minor(0, 0, false));
        makers.put("minor(0, 0, true)", x -> x.minor(0, 0, true));
        makers.put("mix(0, 0, 0)", x -> x.mix(0, 0, 0));
        makers.put("mix(0, 0, 1)", x -> x.mix(0, 0, 1));
        makers.put("mix(0, 0, 2)", x -> x.mix(0, 0, 2));
        makers.put("shadow(0)", x -> x.shadow(0));
        makers.put("settle(0)", x -> x.settle(0));
        makers.put("kernel(0, 1)", x -> x.kernel(0, 1));
        makers.put("kernel(0, 6)", x -> x.kernel(0, 6));
        makers.put("turn(0)", x -> x.turn(0));
        int nth = 0;
        for (Map.Entry<String, CallOn> one : makers.entrySet()) {
            dueMade(one.getKey(), state, one.getValue(), want[nth]);
            nth++;
        }
    }

    private static void duePrice(String what, Transversary x, long above, long under) {
        due("price(0, false) of " + what, x.price(0, false), above);
        due("price(0, true) of " + what, x.price(0, true), under);
    }

    private static Transversary withoutAlive(int points, int... sets) {
        Transversary x = of(points, sets);
        dieAll(x, points);
        return x;
    }

    // ---- without PARTS, with an empty PART, without ALIVE POINTS

    private static void noParts() {
        promise = "without PARTS";
        Transversary x = of(3);
        dueRow("ofFamily(0, ?)", x, (y, what) -> y.ofFamily(0, what), 0, 0, NONE, NONE, 0, 0, 0, 1, 1, 0);
        dueRow("part(0, ?)", x, (y, nth) -> y.part(0, nth), NONE, NONE);
        dueRow("cover(0, ?)", x, (y, what) -> y.cover(0, what), 0, 0, 0, 0);
        duePrice("it", x, 0, 1);
        due("dual(0, 0)", x.dual(0, 0), 0);
        dueRow("ring(0, knot ?)", x, (y, knot) -> y.ring(0, knot == 1), NONE, NONE);
        due("game(0)", x.game(0), NONE);
        due("repair(0, 7, 0)", x.repair(0, 7, 0), 6);
        due("repair(0, 4, 2)", x.repair(0, 4, 2), 0);
        dueRow("flower(0, ?)", x, (y, what) -> y.flower(0, what), 0, NONE);
        dueRow("rich(0, ?)", x, (y, what) -> y.rich(0, what), NONE, 0);
        dueRow("growth(0, ?)", x, (y, size) -> y.growth(0, size), 0, 0, 0, 0, 0, 0, 0, 0);
        dueRow("net(0, ?)", x, (y, size) -> y.net(0, size), 0, 0, 0, 0, 0, 0, 0, 0);
        due("fits(0, 0, 0)", x.fits(0, 0, 0), 0);
        dueRow("even(0, ?)", x, (y, what) -> y.even(0, what), 0, 0);
        due("colours(0)", x.colours(0), 1);
        dueRow("ways(0, 2, ?)", x, (y, rest) -> y.ways(0, 2, rest), 8, 8);
        dueRow("ways(0, 3, ?)", x, (y, rest) -> y.ways(0, 3, rest), 27, 27, 27);
        due("resample(0, 0)", x.resample(0, 0), 1);
        dueRow("joins(0, ?)", x, (y, what) -> y.joins(0, what), 1, 0, 0, 0);
        dueRow("chains(0, ?)", x, (y, what) -> y.chains(0, what), 0, 0, 0, 1);
        dueNoFaces(x);
        dueRow("tells(0, ?)", x, (y, what) -> y.tells(0, what), 0, 1);
        dueMakers(() -> of(3), "", "0", "", "", "", "", "", "", "", "", "", "");
        dueMade("press(0, 2, 0)", () -> of(3), y -> y.press(0, 2, 0), "");
    }

    private static void dueNoFaces(Transversary x) {
        dueRow("faces(0, ?, false)", x, (y, dimension) -> y.faces(0, dimension, false), 0, 0, 0, 0, 0, 0, 0);
        dueRow("faces(0, ?, true)", x, (y, dimension) -> y.faces(0, dimension, true), 0, 0, 0, 0, 0, 0, 0);
        dueRow("collapse(0, ?)", x, (y, what) -> y.collapse(0, what), 0, 0);
        due("rank(0, 2)", x.rank(0, 2), 0);
        due("rank(0, 3)", x.rank(0, 3), 0);
        due("rank(0, 5)", x.rank(0, 5), 0);
        due("outcome(0, 0)", x.outcome(0, 0), 0);
        due("outcome(0, 7)", x.outcome(0, 7), 0);
    }

    private static void onlyTheEmptyPart() {
        promise = "with the empty PART alone";
        Transversary x = of(3, 0);
        dueRow("ofFamily(0, ?)", x, (y, what) -> y.ofFamily(0, what), 1, 1, 0, 0, 0, 0, 1, 0, 1, 0);
        dueRow("part(0, ?)", x, (y, nth) -> y.part(0, nth), 0, NONE);
        dueRow("cover(0, ?)", x, (y, what) -> y.cover(0, what), NONE, NONE, NONE, 1);
        duePrice("it", x, NONE, NONE);
        due("dual(0, 0)", x.dual(0, 0), 0);
        dueRow("ring(0, knot ?)", x, (y, knot) -> y.ring(0, knot == 1), NONE, NONE);
        due("game(0)", x.game(0), 0);
        due("repair(0, 7, 0)", x.repair(0, 7, 0), NONE);
        dueRow("flower(0, ?)", x, (y, what) -> y.flower(0, what), 1, 0);
        dueRow("rich(0, ?)", x, (y, what) -> y.rich(0, what), 0, 1);
        dueRow("growth(0, ?)", x, (y, size) -> y.growth(0, size), 1, 1, 1, 1, 0, 0, 0, 0);
        dueRow("net(0, ?)", x, (y, size) -> y.net(0, size), NONE, 0, 0, 0, 0, 0, 0, 0);
        due("fits(0, 0, 7)", x.fits(0, 0, 7), 1);
        due("fits(0, 1, 0)", x.fits(0, 1, 0), 0);
        dueRow("even(0, ?)", x, (y, what) -> y.even(0, what), 0, 0);
        due("colours(0)", x.colours(0), 1);
        dueRow("ways(0, 2, ?)", x, (y, rest) -> y.ways(0, 2, rest), 0, 8);
        dueRow("ways(0, 3, ?)", x, (y, rest) -> y.ways(0, 3, rest), 0, 27, 27);
        due("resample(0, 0)", x.resample(0, 0), 1);
        dueRow("joins(0, ?)", x, (y, what) -> y.joins(0, what), 1, 1, 0, 0);
        dueRow("chains(0, ?)", x, (y, what) -> y.chains(0, what), 1, 1, 1, 1);
        dueNoFaces(x);
        dueRow("tells(0, ?)", x, (y, what) -> y.tells(0, what), 0, 1);
        dueMakers(() -> of(3, 0), "0", "", "0", "", "0", "0", "0", "", "0", "0", "0", "7");
        dueMade("press(0, 2, 0)", () -> of(3, 0), y -> y.press(0, 2, 0), "0");
    }

    private static void noAlivePoints() {
        promise = "without PARTS and ALIVE POINTS";
        Transversary x = withoutAlive(3);
        dueRow("ofFamily(0, ?)", x, (y, what) -> y.ofFamily(0, what), 0, 0, NONE, NONE, 0, 0, 0, 1, 1, 0);
        dueRow("cover(0, ?)", x, (y, what) -> y.cover(0, what), 0, 0, 0, 0);
        duePrice("it", x, 0, 1);
        due("dual(0, 0)", x.dual(0, 0), 0);
        dueRow("ring(0, knot ?)", x, (y, knot) -> y.ring(0, knot == 1), NONE, NONE);
        due("game(0)", x.game(0), NONE);
        dueRow("flower(0, ?)", x, (y, what) -> y.flower(0, what), 0, NONE);
        dueRow("rich(0, ?)", x, (y, what) -> y.rich(0, what), NONE, 0);
        dueRow("growth(0, ?)", x, (y, size) -> y.growth(0, size), 0, 0, 0, 0, 0, 0, 0, 0);
        dueRow("net(0, ?)", x, (y, size) -> y.net(0, size), 0, 0, 0, 0, 0, 0, 0, 0);
        due("fits(0, 7, 7)", x.fits(0, 7, 7), 0);
        dueRow("even(0, ?)", x, (y, what) -> y.even(0, what), 0, 0);
        due("colours(0)", x.colours(0), 0);
        dueRow("ways(0, 2, ?)", x, (y, rest) -> y.ways(0, 2, rest), 1, 1);
        dueRow("ways(0, 3, ?)", x, (y, rest) -> y.ways(0, 3, rest), 1, 1, 1);
        due("resample(0, 0)", x.resample(0, 0), 0);
        dueRow("joins(0, ?)", x, (y, what) -> y.joins(0, what), 1, 0, 0, 0);
        dueRow("chains(0, ?)", x, (y, what) -> y.chains(0, what), 0, 0, 0, 1);
        dueNoFaces(x);
        dueRow("tells(0, ?)", x, (y, what) -> y.tells(0, what), 0, 1);
        due("bracket(0, true), of all POINTS", x.bracket(0, true), 1);
        due("bracket(7, false), of all POINTS", x.bracket(7, false), 3);
        dueMakers(() -> withoutAlive(3), "", "0", "", "", "", "", "", "", "", "", "", "");
    }

    /** SETS 1 and 6 are one PART then, the empty one. */
    private static void noAlivePointsButAPart() {
        promise = "with PARTS, without ALIVE POINTS";
        Transversary x = withoutAlive(3, 1, 6);
        dueRow("ofFamily(0, ?)", x, (y, what) -> y.ofFamily(0, what), 2, 1, 0, 0, 0, 0, 1, 0, 1, 0);
        dueRow("part(0, ?)", x, (y, nth) -> y.part(0, nth), 0, NONE);
        dueRow("cover(0, ?)", x, (y, what) -> y.cover(0, what), NONE, NONE, NONE, 1);
        duePrice("it", x, NONE, NONE);
        due("dual(0, 0)", x.dual(0, 0), 0);
        dueRow("ring(0, knot ?)", x, (y, knot) -> y.ring(0, knot == 1), NONE, NONE);
        due("game(0)", x.game(0), NONE);
        dueRow("flower(0, ?)", x, (y, what) -> y.flower(0, what), 1, 0);
        dueRow("rich(0, ?)", x, (y, what) -> y.rich(0, what), 0, 1);
        dueRow("growth(0, ?)", x, (y, size) -> y.growth(0, size), 1, 0, 0, 0, 0, 0, 0, 0);
        dueRow("net(0, ?)", x, (y, size) -> y.net(0, size), NONE, 0, 0, 0, 0, 0, 0, 0);
        due("fits(0, 7, 7)", x.fits(0, 7, 7), 1);
        dueRow("even(0, ?)", x, (y, what) -> y.even(0, what), 0, 0);
        due("colours(0)", x.colours(0), 0);
        dueRow("ways(0, 2, ?)", x, (y, rest) -> y.ways(0, 2, rest), 0, 1);
        dueRow("ways(0, 3, ?)", x, (y, rest) -> y.ways(0, 3, rest), 0, 1, 1);
        due("resample(0, 0)", x.resample(0, 0), 0);
        dueRow("joins(0, ?)", x, (y, what) -> y.joins(0, what), 1, 1, 0, 0);
        dueRow("chains(0, ?)", x, (y, what) -> y.chains(0, what), 1, 1, 1, 1);
        dueNoFaces(x);
        dueRow("tells(0, ?)", x, (y, what) -> y.tells(0, what), 0, 1);
        dueMakers(() -> withoutAlive(3, 1, 6), "0", "", "0", "", "0", "0", "0", "", "0", "0", "0", "0");
    }

    private static void theEmptyPartAndOthers() {
        promise = "with an empty PART among others";
        Transversary x = of(3, 0, 1, 6);
        dueRow("ofFamily(0, ?)", x, (y, what) -> y.ofFamily(0, what), 3, 3, 2, 0, 1, 7, 1, 0, 0, 1);
        dueRow("cover(0, ?)", x, (y, what) -> y.cover(0, what), NONE, NONE, NONE, 3);
        duePrice("it", x, NONE, NONE);
        dueRow("ring(0, knot ?)", x, (y, knot) -> y.ring(0, knot == 1), NONE, NONE);
        due("knot of a triangle and the empty PART", of(3, 0, 3, 5, 6).ring(0, true), 7);
        due("game(0)", x.game(0), 0);
        due("repair(0, 7, 0)", x.repair(0, 7, 0), NONE);
        dueRow("flower(0, ?)", x, (y, what) -> y.flower(0, what), 3, 0);
        dueRow("rich(0, ?)", x, (y, what) -> y.rich(0, what), 1, 4);
        dueRow("growth(0, ?)", x, (y, size) -> y.growth(0, size), 1, 2, 3, 3, 0, 0, 0, 0);
        dueRow("net(0, ?)", x, (y, size) -> y.net(0, size), NONE, 3, 2, 0, 0, 0, 0, 0);
        dueRow("even(0, ?)", x, (y, what) -> y.even(0, what), 1, 2);
        due("colours(0)", x.colours(0), 2);
        dueRow("ways(0, 2, ?)", x, (y, rest) -> y.ways(0, 2, rest), 0, 2);
        due("resample(0, 0), that takes 6 and not the empty one", x.resample(0, 0), 128 + 5);
        dueRow("joins(0, ?)", x, (y, what) -> y.joins(0, what), 1, 4, 0, 1);
        dueRow("chains(0, ?)", x, (y, what) -> y.chains(0, what), 2, 2, 1, 1);
        dueRow("faces(0, ?, false)", x, (y, dimension) -> y.faces(0, dimension, false), 3, 1, 0, 0, 0, 0, 0);
        dueRow("faces(0, ?, true)", x, (y, dimension) -> y.faces(0, dimension, true), 2, 0, 0, 0, 0, 0, 0);
        dueRow("collapse(0, ?)", x, (y, what) -> y.collapse(0, what), 1, 2);
        due("rank(0, 2)", x.rank(0, 2), 2);
        due("outcome(0, 7), in which the empty TEST is false", x.outcome(0, 7), 6);
        dueRow("tells(0, ?)", x, (y, what) -> y.tells(0, what), 0, 4);
        dueMakers(() -> of(3, 0, 1, 6), "0", "", "0 6", "0", "0 1 6 7", "0 1 6", "0 1 6 7", "0 2 4",
                "0 1 3", "0", "0 1 6", "1 6 7");
        due("add(0, 0) leaves no BLOCKER", of(3, 1, 6).add(0, 0), 0);
        due("drop(0, 0) gives them back", of(3, 0, 1, 6).drop(0, 0), 2);
    }

    private static void oneAlivePoint() {
        promise = "with one ALIVE POINT";
        for (int point = 0; point < 3; point++) {
            int set = 1 << point;
            Transversary x = of(3, set, 7);
            dieAll(x, 3);
            due("die(" + point + ", false)", x.die(point, false), 1);
            dueRow("ofFamily(0, ?)", x, (y, what) -> y.ofFamily(0, what), 2, 1, 1, 1, 1, set, 1, 1, 1, 0);
            dueRow("cover(0, ?)", x, (y, what) -> y.cover(0, what), 1, set, set, 1);
            duePrice("it", x, 1, 1);
            dueRow("ring(0, knot ?)", x, (y, knot) -> y.ring(0, knot == 1), NONE, NONE);
            due("game(0)", x.game(0), point);
            due("repair of it", x.repair(0, set, point), NONE);
            dueRow("flower(0, ?)", x, (y, what) -> y.flower(0, what), 1, 0);
            dueRow("rich(0, ?)", x, (y, what) -> y.rich(0, what), 0, 1);
            dueRow("growth(0, ?)", x, (y, size) -> y.growth(0, size), 1, 1, 0, 0, 0, 0, 0, 0);
            dueRow("net(0, ?)", x, (y, size) -> y.net(0, size), set, set, 0, 0, 0, 0, 0, 0);
            dueRow("even(0, ?)", x, (y, what) -> y.even(0, what), 1, 0);
            due("colours(0)", x.colours(0), 1);
            dueRow("ways(0, 3, ?)", x, (y, rest) -> y.ways(0, 3, rest), 2, 2, 2);
            due("resample(0, 0)", x.resample(0, 0), set);
            dueRow("joins(0, ?)", x, (y, what) -> y.joins(0, what), 1, 2, 0, 0);
            dueRow("chains(0, ?)", x, (y, what) -> y.chains(0, what), 1, 1, 1, 1);
            dueRow("faces(0, ?, true)", x, (y, dimension) -> y.faces(0, dimension, true), 1, 0, 0, 0, 0, 0, 0);
            dueRow("collapse(0, ?)", x, (y, what) -> y.collapse(0, what), 0, 1);
            due("rank(0, 3)", x.rank(0, 3), 1);
            dueRow("tells(0, ?)", x, (y, what) -> y.tells(0, what), 1, 2);
        }
    }

    // ---- points and families

    private static void begunAnew() {
        promise = "2 ground";
        for (int points = 2; points <= 7; points++) {
            Transversary x = new Transversary();
            due("ground(" + points + ")", x.ground(points), 1 << points);
            due("how many are ALIVE", x.die(0, false), points);
        }
        Transversary x = of(7, 127);
        x.weigh(6, 9);
        x.weigh(0, 8);
        x.die(6, true);
        x.die(1, true);
        x.ground(2);
        due("weigh(0, 1) behind ground", x.weigh(0, 1), 1);
        due("die(0, false) behind ground", x.die(0, false), 2);
        x.ground(7);
        due("weigh(6, 1) behind ground", x.weigh(6, 1), 1);
        due("die(6, false) behind ground", x.die(6, false), 7);
        due("family() behind ground", x.family(), 0);
        dueText("look", look(x), look(of(7)));
        Transversary full = fullOfFamilies();
        full.ground(7);
        for (int family = 0; family < 5; family++) {
            due("family() behind ground", full.family(), family);
            due("SETS of it", full.ofFamily(family, 0), 0);
        }
        promise = "1 a new object";
        Transversary four = new Transversary();
        four.ground(4);
        dueText("look", look(new Transversary()), look(four));
    }

    private static void deaths() {
        promise = "4 die";
        Transversary x = new Transversary();
        x.ground(7);
        for (int point = 0; point < 7; point++) {
            due("die(" + point + ", true)", x.die(point, true), 6 - point);
            due("die(" + point + ", true) once more", x.die(point, true), 6 - point);
        }
        for (int point = 0; point < 7; point++) {
            due("die(" + point + ", false)", x.die(point, false), 1 + point);
            due("die(" + point + ", false) once more", x.die(point, false), 1 + point);
        }
        Transversary y = of(4, 3, 2, 9);
        y.die(0, true);
        due("add(0, 8): the PART of it is there, the SET is not", y.add(0, 8), 1);
        due("SETS", y.ofFamily(0, 0), 4);
        due("PARTS", y.ofFamily(0, 1), 2);
        due("add(0, 1): an empty PART", y.add(0, 1), 0);
        due("drop(0, 9): the PART of it stays", y.drop(0, 9), 0);
        due("PARTS", y.ofFamily(0, 1), 3);
        due("blocker(0), made of PARTS", y.blocker(0), 1);
        due("turn(0), made of PARTS", y.turn(0), 2);
        y.die(0, false);
        dueText("BLOCKERS that were made", partsOf(y, 1), "");
        dueText("what was turned", partsOf(y, 2), "6 12 14");
        dueText("PARTS", partsOf(y, 0), "1 2 3 8");
        Transversary weighed = of(3, 3);
        due("weigh(0, 9)", weighed.weigh(0, 9), 1);
        weighed.die(0, true);
        due("weigh(0, 2) of a DEAD one", weighed.weigh(0, 2), 9);
        weighed.die(0, false);
        due("weigh(0, 1) of it again", weighed.weigh(0, 1), 2);
    }

    private static Transversary fullOfFamilies() {
        Transversary x = new Transversary();
        x.ground(7);
        for (int family = 0; family < 5; family++) {
            tellFirst(x, 36 + family);
        }
        return x;
    }

    private static void fiveFamilies() {
        promise = "with 5 FAMILIES";
        Transversary x = fullOfFamilies();
        for (int family = 0; family < 5; family++) {
            due("SETS of " + family, x.ofFamily(family, 0), 36 + family);
            due("the last PART of " + family, x.part(family, 35 + family), 35 + family);
            due("drop(" + family + ", 0)", x.drop(family, 0), 1);
        }
        due("add(4, 127)", x.add(4, 127), 1);
        dueThrow("family()", STATE, x::family);
        dueThrow("sow(1, 1, 0)", STATE, () -> x.sow(1, 1, 0));
        due("least(4)", x.least(4), NOT_MADE);
        Transversary y = of(4, 3, 6);
        due("blocker(0), the second FAMILY", y.blocker(0), 1);
        due("least(1), the third", y.least(1), 2);
        due("turn(2), the fourth", y.turn(2), 3);
        due("shadow(3), the fifth", y.shadow(3), 4);
        due("settle(4), a sixth", y.settle(4), NOT_MADE);
        dueThrow("ofFamily(5, 0)", INDEX, () -> y.ofFamily(5, 0));
        dueText("the fifth", partsOf(y, 4), "2 5 8 9 12");
        Transversary z = new Transversary();
        for (int many = 1; many <= 5; many++) {
            z.sow(many, 2, many);
        }
        dueThrow("sow(6, 2, 6)", STATE, () -> z.sow(6, 2, 6));
    }

    /** The SETS 0 to 39 of 6 or 7 POINTS, and that many of any PARTS that fill each row there is. */
    private static void fortySets() {
        promise = "with 40 SETS";
        Transversary x = new Transversary();
        x.ground(6);
        tellFirst(x, 40);
        dueRow("ofFamily(0, ?)", x, (y, what) -> y.ofFamily(0, what), 40, 40, 5, 0, 20, 63, 1, 0, 0, 31);
        dueRow("part(0, ?)", x, (y, nth) -> y.part(0, nth), 0, 1, 2, 3);
        due("part(0, 39)", x.part(0, 39), 39);
        due("part(0, 40)", x.part(0, 40), NONE);
        due("cover(0, 3)", x.cover(0, 3), 7);
        dueRow("flower(0, ?)", x, (y, what) -> y.flower(0, what), 7, 0);
        dueRow("rich(0, ?)", x, (y, what) -> y.rich(0, what), 5, 40);
        dueRow("growth(0, ?)", x, (y, size) -> y.growth(0, size), 1, 2, 4, 8, 16, 32, 40, 0);
        due("fits(0, 32, 0)", x.fits(0, 32, 0), 8);
        dueRow("joins(0, ?)", x, (y, what) -> y.joins(0, what), 1, 45, 0, 4);
        due("chains(0, 0)", x.chains(0, 0), 6);
        due("outcome(0, 63)", x.outcome(0, 63), (1L << 40) - 2);
        due("outcome(0, 32)", x.outcome(0, 32), 0xFFL << 32);
        dueRow("tells(0, ?)", x, (y, what) -> y.tells(0, what), 6, 64);
        due("turn(0)", x.turn(0), 1);
        due("SETS that were turned", x.ofFamily(1, 0), 40);
        due("least(0)", x.least(0), 2);
        due("kernel(0, 6)", x.kernel(0, 6), 3);
        dueText("the KERNEL, by a FLOWER of 7 PETALS", partsOf(x, 3), "0");
        dueThrow("add(0, 40)", STATE, () -> x.add(0, 40));
        due("drop(0, 0)", x.drop(0, 0), 1);
        due("add(0, 40)", x.add(0, 40), 1);
        dueThrow("add(0, 0)", STATE, () -> x.add(0, 0));
        dueDead(x);
        Transversary last = ground(7);
        last.family();
        for (int set = 25; set <= 64; set++) {
            last.add(0, set);
        }
        duePrice("40 PARTS, by 25, 32 and 64", last, 3, 1);
        due("knot of 40 PARTS", last.ring(0, true), NONE);
    }

    /** With DEAD POINTS there are fewer PARTS, but still 40 SETS. */
    private static void dueDead(Transversary x) {
        x.die(0, true);
        x.die(1, true);
        x.die(2, true);
        due("SETS with DEAD POINTS", x.ofFamily(0, 0), 40);
        due("PARTS with DEAD POINTS", x.ofFamily(0, 1), 6);
        dueThrow("add(0, 63) with DEAD POINTS", STATE, () -> x.add(0, 63));
        Transversary threes = of(7, 0, 1, 3, 15, 127);
        addOfSize(threes, 0, 7, 3);
        due("chains(0, 1) of 35 threes and a CHAIN through them", threes.chains(0, 1), 35);
        due("chains(0, 0) of them", threes.chains(0, 0), 6);
        due("least(0) of them", threes.ofFamily(0, 6), 1);
        due("colours(0) of them", threes.colours(0), 4);
    }

    private static void seedsRow() {
        promise = "8 sow";
        // the row of 99: 49, 70, 59, 44; modulo 4 this is 1, 2, 3, 0
        dueSown("sow(1, 1, 99)", Transversary::new, x -> x.sow(1, 1, 99), "8");
        dueSown("sow(1, 2, 99)", Transversary::new, x -> x.sow(1, 2, 99), "9");
        dueSown("sow(1, 3, 99)", Transversary::new, x -> x.sow(1, 3, 99), "11");
        // the row of 0: 23, 94, 62, 58, 3, 37, 14, 52; modulo 4 this is 3, 2, 2, 2, 3, 1, 2, 0
        dueSown("sow(1, 1, 0)", Transversary::new, x -> x.sow(1, 1, 0), "0");
        dueSown("sow(1, 2, 0) of six", () -> ground(6), x -> x.sow(1, 2, 0), "32");
        dueSown("sow(1, 3, 0) of seven", () -> ground(7), x -> x.sow(1, 3, 0), "110");
        dueSown("sow(4, 3, 0) of two", () -> ground(2), x -> x.sow(4, 3, 0), "2 3");
        Transversary x = ground(2);
        due("sow(4, 3, 0), each SET once", x.sow(4, 3, 0), 2);
        due("sow(40, 3, 0)", x.sow(40, 3, 0), x.ofFamily(1, 0));
        due("sow(40, 1, 99)", x.sow(40, 1, 99), x.ofFamily(2, 0));
        promise = "36 resample";
        // the row of 99 modulo 2 is 1, 0, 1, 0
        due("resample(0, 99)", of(4).resample(0, 99), 5);
        Transversary dead = of(4);
        dead.die(0, true);
        due("resample(0, 99), where a DEAD POINT takes no number", dead.resample(0, 99), 10);
    }

    private static void dueSown(String call, Supplier<Transversary> state, CallOn sow, String want) {
        Transversary x = state.get();
        sow.on(x);
        dueText(call, partsOf(x, 0), want);
    }

    private static Transversary ground(int points) {
        Transversary x = new Transversary();
        x.ground(points);
        return x;
    }

    // ---- families out of others

    private static void justSoManyMade() {
        promise = "12 mix";
        Transversary x = of(7, 0, 1, 2, 3, 4, 5, 6, 7);
        tell(x, 0, 8, 16, 24, 32);
        due("mix(0, 1, 0) of 40 SETS", x.mix(0, 1, 0), 2);
        due("its SETS", x.ofFamily(2, 0), 40);
        x.add(1, 47);
        due("mix(0, 1, 0) of 41 SETS", x.mix(0, 1, 0), NOT_MADE);
        due("mix(0, 1, 1) of 8 SETS", x.mix(0, 1, 1), 3);
        due("mix(0, 1, 2) of 48 SETS", x.mix(0, 1, 2), NOT_MADE);
        dueThrow("ofFamily(4, 0)", INDEX, () -> x.ofFamily(4, 0));
        promise = "13 shadow";
        Transversary y = of(7, 4, 3, 12);
        addOfSize(y, 0, 7, 4);
        due("shadow(0) of 40 SETS", y.shadow(0), 1);
        due("its SETS", y.ofFamily(1, 0), 40);
        y.add(0, 17);
        due("shadow(0) of 41 SETS", y.shadow(0), NOT_MADE);
        due("family(), the next one", y.family(), 2);
        promise = "10 blocker";
        Transversary z = of(7);
        addOfSize(z, 0, 7, 4);
        due("blocker(0) of all fours: as many fours", z.blocker(0), 1);
        due("its SETS", z.ofFamily(1, 0), 35);
        due("ofFamily(0, 7)", z.ofFamily(0, 7), 35);
        due("drop(0, 120)", z.drop(0, 120), 32);
        due("dual(1, 0), without 120", z.dual(1, 0), 120);
        due("add(0, 120)", z.add(0, 120), 35);
        due("dual(1, 0)", z.dual(1, 0), NONE);
        promise = "22 dual";
        Transversary w = of(7, 1);
        tell(w, 0);
        tell(w, 1, 2, 4, 8, 16, 32, 64);
        w.family();
        due("dual(0, 1): the smallest SET of all", w.dual(0, 1), 0);
        due("dual(2, 3): the greatest SET of all", w.dual(2, 3), 127);
        due("dual(1, 3), an empty PART and no PARTS", w.dual(1, 3), NONE);
        due("dual(3, 1), no PARTS and an empty PART", w.dual(3, 1), NONE);
    }

    private static void kernels() {
        promise = "16 kernel";
        for (int most = 1; most <= 6; most++) {
            int same = most;
            int[] petals = new int[most + 1];
            StringBuilder all = new StringBuilder();
            for (int point = 0; point <= most; point++) {
                petals[point] = 1 << point;
                all.append(point == 0 ? "" : " ").append(1 << point);
            }
            dueMade("kernel(0, " + most + ") of one PETAL more", () -> of(7, petals), x -> x.kernel(0, same), "0");
            String without = all.substring(all.indexOf(" ") + 1);
            dueMade("kernel(0, " + most + ") of just so many", () -> of(7, drop(petals)), x -> x.kernel(0, same),
                    without);
        }
        dueMade("kernel of the smallest HEART first", () -> of(6, 3, 5, 18, 34), x -> x.kernel(0, 1), "0");
        dueMade("kernel of two HEARTS", () -> of(6, 3, 5, 9, 18, 34), x -> x.kernel(0, 2), "1 18 34");
        dueMade("kernel that leaves what has not the HEART", () -> of(5, 2, 5, 9, 17), x -> x.kernel(0, 2), "1 2");
        dueMade("kernel with k PETALS besides the HEART", () -> of(4, 1, 3, 5), x -> x.kernel(0, 2), "1");
        dueMade("kernel of the empty PART and two", () -> of(4, 0, 1, 2), x -> x.kernel(0, 2), "0");
        dueMade("kernel of the empty PART and one", () -> of(4, 0, 1, 3), x -> x.kernel(0, 2), "0 1 3");
    }

    private static int[] drop(int[] row) {
        return Arrays.copyOfRange(row, 1, row.length);
    }

    private static void pressedAndSettled() {
        promise = "14 press";
        dueMade("press of a PART that has both", () -> of(3, 3, 7), x -> x.press(0, 0, 1), "3 7");
        dueMade("press of a PART that has none", () -> of(3, 0, 4), x -> x.press(0, 0, 1), "0 4");
        dueMade("press of a PART that has the other", () -> of(3, 2, 6), x -> x.press(0, 0, 1), "2 6");
        dueMade("press of one that can and one that can not", () -> of(3, 1, 2, 5), x -> x.press(0, 0, 1), "1 2 6");
        dueMade("press(0, 6, 0)", () -> of(7, 64, 96), x -> x.press(0, 6, 0), "1 33");
        dueMade("press(0, 0, 6)", () -> of(7, 1, 33), x -> x.press(0, 0, 6), "64 96");
        promise = "15 settle";
        dueMade("settle of what is settled", () -> of(4, 3, 5, 6), x -> x.settle(0), "3 5 6");
        dueMade("settle of one PART at the end", () -> of(7, 112), x -> x.settle(0), "7");
        dueMade("settle in its order", () -> of(4, 6, 9), x -> x.settle(0), "3 5");
        dueMade("settle by rising j", () -> of(4, 3, 5, 10), x -> x.settle(0), "3 5 9");
        dueMade("settle by rising i", () -> of(4, 3, 6, 12), x -> x.settle(0), "3 5 9");
        Transversary x = of(3, 4, 6);
        x.die(0, true);
        x.die(1, true);
        due("settle(0) with one ALIVE POINT", x.settle(0), 1);
        dueText("its SETS", partsOf(x, 1), "4");
        promise = "11 minor";
        dueMade("minor(0, 6, true)", () -> of(7, 64, 127, 63), y -> y.minor(0, 6, true), "0 63");
        dueMade("minor(0, 6, false)", () -> of(7, 64, 127, 63), y -> y.minor(0, 6, false), "63");
        promise = "13 shadow";
        dueMade("shadow of the greatest", () -> of(7, 127), y -> y.shadow(0), "63 95 111 119 123 125 126");
        dueMade("shadow of a single POINT", () -> of(2, 2), y -> y.shadow(0), "0");
    }

    // ---- covers, packings, prices

    private static void mostAndFewestPoints() {
        promise = "with 7 POINTS";
        Transversary x = of(7, 1, 2, 4, 8, 16, 32, 64);
        dueRow("ofFamily(0, ?)", x, (y, what) -> y.ofFamily(0, what), 7, 7, 1, 1, 1, 127, 7, 1, 0, 1);
        dueRow("cover(0, ?)", x, (y, what) -> y.cover(0, what), 7, 127, 127, 7);
        duePrice("singles", x, 7, 1);
        for (int point = 0; point < 7; point++) {
            due("weigh(" + point + ", 9)", x.weigh(point, 9), 1);
        }
        dueRow("cover(0, ?) of the greatest WEIGHT", x, (y, what) -> y.cover(0, what), 63, 127, 127, 7);
        duePrice("the greatest WEIGHT", x, 63, 1);
        dueRow("tells(0, ?)", x, (y, what) -> y.tells(0, what), 7, 128);
        due("outcome(0, 127)", x.outcome(0, 127), 127);
        due("rank(0, 5)", x.rank(0, 5), 7);
        due("add(0, 0)", x.add(0, 0), 0);
        due("cover(0, 3) with the empty PART", x.cover(0, 3), 8);
        dueRow("flower(0, ?) of 8 PETALS", x, (y, what) -> y.flower(0, what), 8, 0);
        Transversary all = of(7, 127);
        dueRow("ofFamily(0, ?) of all POINTS", all, (y, what) -> y.ofFamily(0, what), 1, 1, 7, 7, 1, 127, 1, 7, 1, 0);
        dueRow("even(0, ?)", all, (y, what) -> y.even(0, what), 1, 7);
        dueRow("growth(0, ?)", all, (y, size) -> y.growth(0, size), 1, 1, 1, 1, 1, 1, 1, 1);
        dueRow("net(0, ?)", all, (y, size) -> y.net(0, size), 1, 1, 1, 1, 1, 1, 1, 1);
        due("ways(0, 2, 0)", all.ways(0, 2, 0), 64);
        due("ways(0, 3, 0)", all.ways(0, 3, 0), 1458);
        dueRow("joins(0, ?)", all, (y, what) -> y.joins(0, what), 1, 8, 0, 6);
        dueRow("chains(0, ?)", all, (y, what) -> y.chains(0, what), 1, 1, 1, 1);
        due("add(0, 63)", all.add(0, 63), 6);
        due("ofFamily(0, 9), SUMS of 6", all.ofFamily(0, 9), 64);
        promise = "with 2 POINTS";
        Transversary two = of(2, 0, 1, 2, 3);
        dueRow("ofFamily(0, ?)", two, (y, what) -> y.ofFamily(0, what), 4, 4, 2, 0, 2, 3, 1, 0, 0, 3);
        dueRow("rich(0, ?)", two, (y, what) -> y.rich(0, what), 2, 4);
        dueRow("growth(0, ?)", two, (y, size) -> y.growth(0, size), 1, 2, 4, 0);
        dueRow("flower(0, ?)", two, (y, what) -> y.flower(0, what), 3, 0);
        due("outcome(0, 3)", two.outcome(0, 3), 14);
    }

    private static void coversAtTheirEdges() {
        promise = "20 cover";
        Transversary x = of(4, 3, 12);
        due("cover(0, 1), of several the smallest", x.cover(0, 1), 5);
        due("cover(0, 2), of several the smallest", x.cover(0, 2), 5);
        x.weigh(0, 2);
        x.weigh(2, 9);
        due("cover(0, 2) by less WEIGHT", x.cover(0, 2), 10);
        Transversary y = of(4, 1, 2, 6);
        y.weigh(1, 2);
        // 1 / 1 and 2 / 2 are the same
        due("cover(0, 2) of two fractions that are one", y.cover(0, 2), 3);
        due("cover(0, 2) ends when all are MET", of(7, 1, 3, 5).cover(0, 2), 1);
        due("cover(0, 2) of single PARTS", of(4, 8).cover(0, 2), 8);
        promise = "21 price";
        duePrice("a ring of seven", of(7, 3, 6, 12, 24, 48, 96, 65), 7, 2);
        duePrice("a single POINT", of(2, 2), 1, 1);
        Transversary dead = of(3, 3, 5, 6);
        dead.die(0, true);
        duePrice("two singles and a two", dead, 2, 1);
        dead.die(1, true);
        duePrice("what has an empty PART then", dead, NONE, NONE);
        Transversary four = of(4, 7, 11, 13, 14);
        duePrice("the threes of four", four, 4, 3);
        four.weigh(3, 2);
        duePrice("the threes of four by WEIGHT", four, 3, 2);
        duePrice("three twos", of(4, 5, 6, 10), 2, 1);
        duePrice("what two POINTS cover", of(5, 10, 12, 19, 20, 22, 26), 2, 1);
        duePrice("what needs halves", of(6, 20, 25, 29, 39), 3, 2);
        Transversary weighed = of(4, 5, 11, 14);
        weighed.weigh(0, 3);
        weighed.weigh(2, 2);
        weighed.weigh(3, 3);
        duePrice("what two POINTS cover by WEIGHT", weighed, 3, 1);
        promise = "25 repair";
        due("repair(0, 1, 0), of several the smallest", of(4, 6).repair(0, 1, 0), 2);
        due("repair(0, 9, 0) stays as near as it can", of(4, 6).repair(0, 9, 0), 10);
        due("repair(0, 127, 6)", of(7, 127).repair(0, 127, 6), 63);
        due("repair(0, 64, 6)", of(7, 127, 64).repair(0, 64, 6), NONE);
        due("repair(0, 64, 6)", of(7, 127).repair(0, 64, 6), 1);
    }

    private static void ringsAndGames() {
        promise = "23 ring";
        due("ring of one PART of two", of(2, 3).ring(0, false), NONE);
        due("ring of two PARTS with the same two in a SET", of(4, 3, 7).ring(0, false), NONE);
        due("ring of singles", of(3, 1, 2, 4).ring(0, false), NONE);
        due("ring of SIZE 6", of(6, 3, 6, 12, 24, 48, 33).ring(0, false), NONE);
        due("ring of two PARTS of three", of(3, 3, 5).ring(0, false), NONE);
        due("ring through more than its POINTS", of(6, 11, 21, 38).ring(0, false), 7);
        due("ring of 7, and not two of 3 and 4", of(7, 3, 6, 5, 24, 48, 96, 72).ring(0, false), 7);
        due("ring of two fours", of(7, 3, 6, 12, 9, 48, 96).ring(0, false), NONE);
        due("ring at the end", of(7, 48, 96, 80).ring(0, false), 112);
        due("ring whose POINTS go up and down", of(5, 5, 6, 10, 24, 17).ring(0, false), 31);
        due("ring of seven that goes up and down", of(7, 9, 10, 18, 20, 36, 96, 65).ring(0, false), 127);
        due("the smallest of two", of(6, 7 << 3 & 48, 40, 24, 3, 5, 6).ring(0, false), 7);
        Transversary dead = of(4, 11, 13, 6);
        due("ring of it", dead.ring(0, false), 7);
        dead.die(3, true);
        due("ring with a DEAD POINT out of it", dead.ring(0, false), 7);
        dead.die(2, true);
        due("ring with a DEAD POINT in it", dead.ring(0, false), NONE);
        due("knot with a DEAD POINT in it", dead.ring(0, true), NONE);
        due("knot of the seven lines", of(7, 7, 25, 97, 42, 82, 52, 76).ring(0, true), 63);
        due("knot of the threes of four", of(4, 7, 11, 13, 14).ring(0, true), 15);
        promise = "24 game";
        due("game of one POINT that is left", game(of(2, 3), 0), 1);
        due("game of three POINTS, two wanted", of(3, 3, 5).game(0), 0);
        due("game of two POINTS, both wanted", of(2, 3).game(0), NONE);
        due("game of three POINTS, all wanted", of(3, 7).game(0), NONE);
        due("game of two twos that are APART", of(4, 3, 12).game(0), NONE);
        due("game of a lone POINT at the end", of(7, 64).game(0), 6);
        due("game of two lone POINTS", of(7, 64, 32).game(0), 0);
        due("game of two lone POINTS of two", of(2, 1, 2).game(0), 0);
        gamesOfSeven();
    }

    /** Of seven POINTS the first one gets four, and never five. */
    private static void gamesOfSeven() {
        Transversary fours = ground(7);
        addOfSize(fours, fours.family(), 7, 4);
        due("game of all fours of seven", fours.game(0), 0);
        fours.die(6, true);
        due("game of all fours and threes of six", fours.game(0), 0);
        Transversary fives = ground(7);
        addOfSize(fives, fives.family(), 7, 5);
        due("game of all fives of seven", fives.game(0), NONE);
        due("game of a triangle at the end", of(7, 48, 80, 96).game(0), 4);
        due("game of two ways at the end", of(7, 33, 96).game(0), 5);
    }

    private static int game(Transversary x, int deadPoint) {
        x.die(deadPoint, true);
        return x.game(0);
    }

    // ---- flowers, samples

    private static void samplesAtTheirEdges() {
        promise = "26 flower";
        dueRow("flower of the HEART alone", of(3, 7), (y, what) -> y.flower(0, what), 1, 0);
        dueRow("flower of two that are nested", of(3, 1, 7), (y, what) -> y.flower(0, what), 2, 1);
        dueRow("flower of several HEARTS", of(4, 5, 6, 9, 10), (y, what) -> y.flower(0, what), 2, 0);
        dueRow("flower of a later HEART with more PARTS", of(4, 3, 5, 7, 8), (y, what) -> y.flower(0, what), 2, 0);
        dueRow("flower at the end", of(7, 65, 66, 68), (y, what) -> y.flower(0, what), 3, 64);
        promise = "27 rich";
        Transversary x = ground(7);
        tellFirst(x, 32);
        dueRow("rich of 32", x, (y, what) -> y.rich(0, what), 5, 32);
        due("drop(0, 31)", x.drop(0, 31), 0);
        dueRow("rich of 31", x, (y, what) -> y.rich(0, what), 4, 31);
        dueRow("rich of two", of(7, 0, 64), (y, what) -> y.rich(0, what), 1, 2);
        promise = "28 growth";
        Transversary dead = of(4, 0, 1, 2, 4);
        dueRow("growth(0, ?)", dead, (y, size) -> y.growth(0, size), 1, 2, 3, 4, 4, 0);
        dead.die(2, true);
        dueRow("growth(0, ?) with a DEAD POINT", dead, (y, size) -> y.growth(0, size), 1, 2, 3, 3, 0, 0);
        promise = "29 net";
        Transversary y = of(5, 1, 6, 28);
        dueRow("net(0, ?)", y, (z, size) -> z.net(0, size), 5, 5, 4, 4, 0, 0, 0, 0);
        y.weigh(2, 3);
        dueRow("net(0, ?) by WEIGHT", y, (z, size) -> z.net(0, size), 11, 11, 10, 8, 0, 0, 0, 0);
        y.weigh(2, 2);
        dueRow("net(0, ?), of several the smallest", y, (z, size) -> z.net(0, size), 5, 5, 4, 8, 0, 0, 0, 0);
        due("net(0, 7) of all POINTS", of(7, 127, 63).net(0, 7), 1);
        promise = "30 fits";
        Transversary fit = of(4, 0, 5, 7, 15);
        due("fits(0, 15, 0)", fit.fits(0, 15, 0), 1);
        due("fits(0, 0, 15)", fit.fits(0, 0, 15), 1);
        due("fits(0, 15, 15)", fit.fits(0, 15, 15), 0);
        due("fits(0, 5, 2)", fit.fits(0, 5, 2), 1);
        fit.die(1, true);
        due("fits(0, 7, 2) with a DEAD POINT", fit.fits(0, 7, 2), 2);
        due("fits(0, 2, 15) with a DEAD POINT", fit.fits(0, 2, 15), 1);
    }

    private static void cascadesAtTheirEdges() {
        Transversary x = new Transversary();
        promise = "31 leastShadow";
        due("leastShadow(1, 1)", x.leastShadow(1, 1), 1);
        due("leastShadow(500, 1)", x.leastShadow(500, 1), 1);
        due("leastShadow(1, 7)", x.leastShadow(1, 7), 7);
        due("leastShadow(500, 7)", x.leastShadow(500, 7), 462 + 126 + 70 + 20 + 10 + 3 + 1);
        due("leastShadow(500, 2)", x.leastShadow(500, 2), 33);
        due("leastShadow(496, 2)", x.leastShadow(496, 2), 32);
        promise = "32 cascade";
        dueText("cascade(1, 1)", x.cascade(1, 1), "C(1,1)");
        dueText("cascade(500, 7)", x.cascade(500, 7), "C(11,7)+C(9,6)+C(8,5)+C(6,4)+C(5,3)+C(3,2)+C(2,1)");
        dueText("cascade(499, 1)", x.cascade(499, 1), "C(499,1)");
        dueText("cascade(496, 2)", x.cascade(496, 2), "C(32,2)");
        dueText("cascade(495, 2)", x.cascade(495, 2), "C(31,2)+C(30,1)");
        dueText("cascade(8, 7), where a rank is left", x.cascade(8, 7), "C(8,7)");
        dueText("cascade(9, 7)", x.cascade(9, 7), "C(8,7)+C(6,6)");
        dueText("cascade(2, 2)", x.cascade(2, 2), "C(2,2)+C(1,1)");
        dueText("cascade(3, 2)", x.cascade(3, 2), "C(3,2)");
    }

    // ---- signs, colours, trees

    private static void coloursAndWays() {
        promise = "33 even";
        dueRow("even of single PARTS", of(3, 1, 2), (y, what) -> y.even(0, what), 1, 0);
        dueRow("even at the end", of(7, 96), (y, what) -> y.even(0, what), 0, 32);
        Transversary dead = of(3, 3, 6, 5);
        dueRow("even", dead, (y, what) -> y.even(0, what), 2, 0);
        dead.die(0, true);
        dueRow("even with a DEAD POINT", dead, (y, what) -> y.even(0, what), 1, 2);
        promise = "34 colours";
        Transversary twos = of(7);
        addOfSize(twos, 0, 7, 2);
        due("colours(0) of all twos of seven", twos.colours(0), 7);
        twos.die(3, true);
        due("colours(0) with a DEAD POINT", twos.colours(0), 6);
        due("colours(0) of a PART of SIZE 2", of(2, 3).colours(0), 2);
        due("colours(0) of a PART of SIZE 1", of(2, 1).colours(0), 1);
        due("colours(0) of a PART of all", of(7, 127).colours(0), 2);
        promise = "35 ways";
        dueRow("ways(0, 2, ?) of a single PART", of(2, 1), (y, rest) -> y.ways(0, 2, rest), 2, 2);
        dueRow("ways(0, 3, ?) of a two", of(2, 3), (y, rest) -> y.ways(0, 3, rest), 6, 6, 6);
        dueRow("ways(0, 3, ?) of two singles", of(2, 1, 2), (y, rest) -> y.ways(0, 3, rest), 4, 4, 4);
        dueRow("ways(0, 2, ?) of two singles and both", of(2, 1, 2, 3), (y, rest) -> y.ways(0, 2, rest), 0, 1);
        dueRow("ways(0, 2, ?) of seven", of(7), (y, rest) -> y.ways(0, 2, rest), 128, 128);
        dueRow("ways(0, 3, ?) of seven", of(7), (y, rest) -> y.ways(0, 3, rest), 2187, 2187, 2187);
        dueRow("ways(0, 3, ?) with a DEAD POINT", dead, (y, rest) -> y.ways(0, 3, rest), 2, 3, 3);
    }

    private static void resampleAtItsEnd() {
        promise = "36 resample";
        due("resample that takes 60", of(6, 41, 52, 18, 24, 42, 11).resample(0, 8), 60 * 128 + 14);
        due("resample that would take 61", of(6, 5, 6, 12, 35, 48).resample(0, 0), NONE);
        due("resample of PARTS of SIZE 1", of(2, 1, 2).resample(0, 99), 1);
        due("resample of a PART of all POINTS", of(7, 127).resample(0, 0), 49);
        // the row of 0 modulo 2 is 1000, then 11 00 00 00 10 for 6, 00 11 for 12, and 00 00 00 10 for 6 again
        due("resample takes the smallest", of(4, 6, 12).resample(0, 0), 11 * 128 + 11);
    }

    private static void joinsAndChains() {
        promise = "37 joins";
        dueRow("joins of nested ones", of(3, 1, 3, 7), (y, what) -> y.joins(0, what), 1, 4, 0, 2);
        dueRow("joins of two that become the same", of(3, 1, 3), (y, what) -> y.joins(0, what), 1, 3, 0, 1);
        dueRow("joins of a ring of seven", of(7, 3, 6, 12, 24, 48, 96, 65), (y, what) -> y.joins(0, what), 0, 0, 7, 2);
        dueRow("joins of singles", of(7, 1, 64), (y, what) -> y.joins(0, what), 1, 3, 0, 0);
        dueRow("joins of a SET at the end", of(7, 64), (y, what) -> y.joins(0, what), 1, 2, 0, 0);
        dueRow("joins of a triangle and a way to it", of(4, 3, 5, 6, 12), (y, what) -> y.joins(0, what), 0, 2, 3, 2);
        Transversary dead = of(7, 15, 112);
        due("joins(0, 3)", dead.joins(0, 3), 3);
        dead.die(0, true);
        due("joins(0, 3) with a DEAD POINT", dead.joins(0, 3), 2);
        promise = "38 chains";
        Transversary nested = of(7, 0, 1, 3, 7, 15, 31, 63, 127);
        dueRow("chains of a greatest CHAIN", nested, (y, what) -> y.chains(0, what), 8, 1, 1, 1);
        Transversary threes = of(7);
        addOfSize(threes, 0, 7, 3);
        dueRow("chains of all threes", threes, (y, what) -> y.chains(0, what), 1, 35, 1, 1);
        dueRow("chains of all threes but one", dropOne(threes, 7), (y, what) -> y.chains(0, what), 1, 34, 34, 35);
        dueRow("chains of a two twice", of(4, 3, 12), (y, what) -> y.chains(0, what), 1, 2, 1, 3);
        dueRow("chains of a one and a two", of(7, 1, 6, 7), (y, what) -> y.chains(0, what), 2, 2, 4, 21);
        dueRow("chains of all SETS of two", of(2, 0, 1, 2, 3), (y, what) -> y.chains(0, what), 3, 2, 1, 1);
        Transversary all = ground(5);
        tellFirst(all, 32);
        dueRow("chains of all SETS of five", all, (y, what) -> y.chains(0, what), 6, 10, 1, 1);
        due("drop(0, 0)", all.drop(0, 0), 1);
        dueRow("chains of all SETS of five but the empty one", all, (y, what) -> y.chains(0, what), 5, 10, 1, 1);
        due("chains of three that are not in each other", of(4, 2, 5, 7, 11, 14, 15).chains(0, 1), 3);
        due("chains that change one behind the other", of(4, 1, 6, 7, 9, 11, 13, 15).chains(0, 1), 3);
        Transversary threesAndFours = of(5, 7, 11, 13, 14, 15, 23, 27);
        dueRow("chains of threes and fours", threesAndFours, (y, what) -> y.chains(0, what), 2, 4, 2, 5);
    }

    private static Transversary dropOne(Transversary x, int set) {
        x.drop(0, set);
        return x;
    }

    // ---- chains, holes, fields, tests

    private static void brackets() {
        promise = "39 bracket";
        Transversary two = ground(2);
        dueRow("bracket(?, true) of 2", two, (y, set) -> y.bracket(set, true), 1, 3, NONE, NONE);
        dueRow("bracket(?, false) of 2", two, (y, set) -> y.bracket(set, false), NONE, 0, NONE, 1);
        Transversary seven = ground(7);
        due("bracket(0, true)", seven.bracket(0, true), 1);
        due("bracket(0, false)", seven.bracket(0, false), NONE);
        due("bracket(127, true)", seven.bracket(127, true), NONE);
        due("bracket(127, false)", seven.bracket(127, false), 63);
        due("bracket(63, true)", seven.bracket(63, true), 127);
        due("bracket(63, false)", seven.bracket(63, false), 31);
        due("bracket(64, true)", seven.bracket(64, true), 65);
        due("bracket(64, false)", seven.bracket(64, false), NONE);
        due("bracket(126, true)", seven.bracket(126, true), NONE);
        due("bracket(126, false)", seven.bracket(126, false), 62);
        due("bracket(116, true)", seven.bracket(116, true), NONE);
        due("bracket(116, false)", seven.bracket(116, false), 52);
        due("bracket(20, true)", seven.bracket(20, true), 21);
        due("bracket(20, false)", seven.bracket(20, false), NONE);
        due("bracket(96, true), nested", seven.bracket(96, true), 97);
        dieAll(seven, 7);
        due("bracket(63, true) without ALIVE POINTS", seven.bracket(63, true), 127);
    }

    private static void facesAndTests() {
        promise = "40 faces";
        Transversary skin = of(7, 63, 95, 111, 119, 123, 125, 126);
        dueRow("faces(0, ?, false)", skin, (y, dimension) -> y.faces(0, dimension, false), 7, 21, 35, 35, 21, 7, 0);
        dueRow("faces(0, ?, true)", skin, (y, dimension) -> y.faces(0, dimension, true), 1, 0, 0, 0, 0, 1, 0);
        Transversary singles = of(7, 1, 2, 4, 8, 16, 32, 64);
        dueRow("faces(0, ?, true)", singles, (y, dimension) -> y.faces(0, dimension, true), 7, 0, 0, 0, 0, 0, 0);
        dueRow("faces(0, ?, true) of a way", of(3, 5, 6), (y, dimension) -> y.faces(0, dimension, true), 1, 0, 0);
        dueRow("faces(0, ?, true) of a way", of(3, 3, 5), (y, dimension) -> y.faces(0, dimension, true), 1, 0, 0);
        // each edge is in just two triangles, but these have no two sides
        Transversary twisted = of(6, 7, 13, 25, 49, 35, 22, 44, 26, 52, 42);
        dueRow("faces(0, ?, false)", twisted, (y, dimension) -> y.faces(0, dimension, false), 6, 15, 10, 0, 0, 0, 0);
        dueRow("faces(0, ?, true)", twisted, (y, dimension) -> y.faces(0, dimension, true), 1, 1, 1, 0, 0, 0, 0);
        promise = "41 collapse";
        dueRow("collapse of what has no free FACE", twisted, (y, what) -> y.collapse(0, what), 0, 31);
        dueRow("collapse of a ball's skin", skin, (y, what) -> y.collapse(0, what), 0, 126);
        dueRow("collapse of a lone POINT", of(4, 8), (y, what) -> y.collapse(0, what), 0, 1);
        dueRow("collapse of a two", of(2, 3), (y, what) -> y.collapse(0, what), 1, 1);
        dueRow("collapse of two twos", of(4, 3, 12), (y, what) -> y.collapse(0, what), 2, 2);
        Transversary tail = of(4, 3, 6, 10, 12);
        dueRow("collapse of a triangle and a way to 0", tail, (y, what) -> y.collapse(0, what), 1, 6);
        dueRow("collapse of the smallest FACE first", of(4, 3, 6, 13), (y, what) -> y.collapse(0, what), 1, 8);
        promise = "42 rank";
        due("rank(0, 2) of singles", singles.rank(0, 2), 7);
        due("rank(0, 3) of a lone POINT at the end", of(7, 64).rank(0, 3), 1);
        promise = "43 outcome";
        due("outcome(0, 0)", singles.outcome(0, 0), 0);
        due("outcome(0, 64)", singles.outcome(0, 64), 64);
        promise = "44 tells";
        dueRow("tells of singles but one", of(4, 1, 2, 4), (y, what) -> y.tells(0, what), 0, 8);
        dueRow("tells of all twos", of(4, 3, 5, 6, 9, 10, 12), (y, what) -> y.tells(0, what), 2, 12);
        Transversary dead = of(4, 1, 2, 4);
        dead.die(3, true);
        dueRow("tells with a DEAD POINT", dead, (y, what) -> y.tells(0, what), 3, 8);
    }

    /** What was asked ahead, of others or of the same FAMILY as it was, may not be in an answer. */
    private static void askedAgain() {
        Transversary x = severalFamilies();
        for (int round = 0; round < 2; round++) {
            for (Map.Entry<String, CallWith> one : answersByFamily().entrySet()) {
                promise = one.getKey();
                for (int family = 4; family >= 0; family--) {
                    due("of " + family + " behind others", one.getValue().on(x, family),
                            one.getValue().on(severalFamilies(), family));
                }
            }
        }
        promise = "38 chains";
        Transversary nested = of(3, 0, 2, 3);
        tell(nested, 1, 2, 3, 5, 7);
        due("chains(0, 1)", nested.chains(0, 1), 1);
        due("chains(1, 1) behind it", nested.chains(1, 1), 2);
        promise = "24 game";
        Transversary triangle = of(3, 3, 5, 6);
        due("game(0)", triangle.game(0), 0);
        triangle.drop(0, 3);
        due("game(0) behind drop", triangle.game(0), 2);
        triangle.drop(0, 5);
        due("game(0) behind drop", triangle.game(0), NONE);
    }

    private static Transversary severalFamilies() {
        Transversary x = of(6, 3, 5, 6, 12, 24, 48, 33);
        tell(x);
        tell(x, 7, 13, 25, 49, 35, 22, 44, 26, 52, 42);
        tell(x, 0, 1, 3, 7, 15, 31, 63, 32, 40);
        tell(x, 1, 2, 4, 8, 16, 32, 60);
        x.weigh(2, 3);
        return x;
    }

    // ---- soundness and the checksum

    /** How an object is made, and what the checksum begins with. */
    private record State(Supplier<Transversary> made, int families, int alive, int... weights) {
    }

    private static List<State> states() {
        List<State> states = new ArrayList<>();
        states.add(new State(Transversary::new, 0, 4, 1, 1, 1, 1));
        states.add(new State(() -> ground(2), 0, 2, 1, 1));
        states.add(new State(() -> ground(7), 0, 7, 1, 1, 1, 1, 1, 1, 1));
        states.add(new State(() -> of(3), 1, 3, 1, 1, 1));
        states.add(new State(() -> of(3, 0), 1, 3, 1, 1, 1));
        states.add(new State(() -> of(3, 0, 1, 6), 1, 3, 1, 1, 1));
        states.add(new State(() -> withoutAlive(3), 1, 0, 1, 1, 1));
        states.add(new State(() -> withoutAlive(3, 1, 6), 1, 0, 1, 1, 1));
        states.add(new State(() -> withoutAlive(7), 1, 0, 1, 1, 1, 1, 1, 1, 1));
        states.add(new State(() -> of(2, 3), 1, 2, 1, 1));
        states.add(new State(EdgeTest::fullOfFamilies, 5, 7, 1, 1, 1, 1, 1, 1, 1));
        states.add(new State(EdgeTest::weighedAndDead, 5, 6, 9, 1, 1, 5, 1, 1, 2));
        return states;
    }

    private static Transversary weighedAndDead() {
        Transversary x = of(7, 3, 6, 12, 24, 48, 96, 65);
        tell(x, 7, 25, 97, 42, 82, 52, 76);
        x.blocker(1);
        x.sow(40, 2, 99);
        x.family();
        x.weigh(0, 9);
        x.weigh(6, 2);
        x.weigh(3, 5);
        x.die(3, true);
        return x;
    }

    private static void sound() {
        promise = "45 isSound";
        for (State state : states()) {
            due("isSound()", state.made().get().isSound() ? 1 : 0, 1);
        }
    }

    private static void checksums() {
        promise = "46 digest";
        int wrapped = 0;
        int below = 0;
        for (State state : states()) {
            long[] numbers = numbersOf(state);
            long digest = state.made().get().digest();
            due("digest() by the answers of the face", digest, digestOf(numbers));
            wrapped += wholeDigestOf(numbers).bitLength() > 63 ? 1 : 0;
            below += digest < 0 ? 1 : 0;
        }
        due("checksums that wrap around", wrapped, 9);
        due("checksums below 0 among them", below > 0 ? 1 : 0, 1);
        due("digest() without FAMILIES, which does not wrap around", ground(2).digest(),
                (((58272L * 31 + 2) * 31 + 1) * 31 + 1) * 31 + 1);
    }

    /** All numbers of the checksum, by the face; each FAMILY's of an object of its own. */
    private static long[] numbersOf(State state) {
        List<Long> numbers = new ArrayList<>();
        numbers.add((long) state.alive());
        for (int weight : state.weights()) {
            numbers.add((long) weight);
        }
        for (int family = 0; family < state.families(); family++) {
            Transversary x = state.made().get();
            addCovers(numbers, x, family);
            addColours(numbers, x, family);
            addChains(numbers, x, family);
        }
        numbers.add(state.made().get().isSound() ? 1L : 0L);
        return numbers.stream().mapToLong(Long::longValue).toArray();
    }

    private static void addEach(List<Long> numbers, int last, IntUnaryOperator asked) {
        for (int what = 0; what <= last; what++) {
            numbers.add((long) asked.applyAsInt(what));
        }
    }

    private static void addCovers(List<Long> numbers, Transversary x, int family) {
        addEach(numbers, 9, what -> x.ofFamily(family, what));
        addEach(numbers, x.ofFamily(family, 1) - 1, nth -> x.part(family, nth));
        addEach(numbers, 3, what -> x.cover(family, what));
        addEach(numbers, 1, under -> x.price(family, under == 1));
        addEach(numbers, 0, none -> x.ring(family, false));
    }

    private static void addColours(List<Long> numbers, Transversary x, int family) {
        addEach(numbers, 1, what -> x.flower(family, what));
        addEach(numbers, 1, what -> x.rich(family, what));
        addEach(numbers, 1, what -> x.even(family, what));
        addEach(numbers, 0, none -> x.colours(family));
        addEach(numbers, 0, none -> x.ways(family, 2, 0));
    }

    private static void addChains(List<Long> numbers, Transversary x, int family) {
        addEach(numbers, 3, what -> x.joins(family, what));
        addEach(numbers, 3, what -> x.chains(family, what));
        addEach(numbers, 2, dimension -> x.faces(family, dimension, true));
        addEach(numbers, 1, what -> x.collapse(family, what));
        addEach(numbers, 1, three -> x.rank(family, 2 + three));
        addEach(numbers, 1, what -> x.tells(family, what));
    }

    /** An object answers for 512 calls, as it did at first. */
    private static void manyCalls() {
        promise = "512 calls";
        Transversary x = ground(7);
        x.family();
        for (int call = 3; call < 512; call += 2) {
            due("add(0, 127), call " + call, x.add(0, 127), 7);
            due("drop(0, 127), call " + (call + 1), x.drop(0, 127), 1);
        }
        Transversary y = fullOfFamilies();
        long digest = y.digest();
        for (int call = 203; call <= 512; call++) {
            due("digest(), call " + call, y.digest(), digest);
        }
    }

    /** Each answer that README.md tells of its example. */
    private static void exampleOfReadme() {
        promise = "README.md";
        Transversary x = new Transversary();
        due("ground(5)", x.ground(5), 32);
        int ring = x.family();
        due("family()", ring, 0);
        int[] sets = {0b00011, 0b00110, 0b01100, 0b11000, 0b10001};
        int[] blockers = {2, 2, 3, 4, 5};
        for (int nth = 0; nth < sets.length; nth++) {
            due("add(ring, " + sets[nth] + ")", x.add(ring, sets[nth]), blockers[nth]);
        }
        duePrice("the ring", x, 5, 2);
        due("cover(ring, 0)", x.cover(ring, 0), 3);
        due("cover(ring, 1)", x.cover(ring, 1), 11);
        due("ring(ring, false)", x.ring(ring, false), 31);
        due("blocker(ring)", x.blocker(ring), 1);
        due("dual(ring, 1)", x.dual(ring, 1), NONE);
        due("die(4, true)", x.die(4, true), 4);
        due("part(ring, 0)", x.part(ring, 0), 1);
        due("ring(ring, false) with a DEAD POINT", x.ring(ring, false), NONE);
        dueThrow("add(ring, 32)", ARGUMENT, () -> x.add(ring, 32));
        dueThrow("part(2, 0)", INDEX, () -> x.part(2, 0));
        for (int family = 2; family < 5; family++) {
            due("turn(ring)", x.turn(ring), family);
        }
        due("turn(ring) with 5 FAMILIES", x.turn(ring), NOT_MADE);
    }
}
