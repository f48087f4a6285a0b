import java.util.ArrayList;
import java.util.HashSet;
import java.util.List;
import java.util.Set;
import java.util.TreeSet;

/** Each promise by answers that were found by hand: what is usual, the edges, and what is wrong. */
public final class PromiseTest extends Checks {
    public static void main(String[] args) {
        pointsAndFamilies();
        familiesOutOfOthers();
        coversPackingsPrices();
        flowersAndSamples();
        signsColoursTrees();
        chainsHolesFieldsTests();
        finish("PromiseTest");
    }

    private static void pointsAndFamilies() {
        aNewObject();
        ground();
        weigh();
        die();
        family();
        addAndDrop();
        sow();
    }

    private static void aNewObject() {
        promise = "1 a new object";
        Transversary x = new Transversary();
        dueThrow("ofFamily(0, 0)", INDEX, () -> x.ofFamily(0, 0));
        due("bracket(15, false)", x.bracket(15, false), 7);
        dueThrow("bracket(16, false)", ARGUMENT, () -> x.bracket(16, false));
        due("die(3, false)", x.die(3, false), 4);
        due("weigh(3, 1)", x.weigh(3, 1), 1);
        due("digest()", new Transversary().digest(), digestOf(4, 1, 1, 1, 1, 1));
    }

    private static void ground() {
        promise = "2 ground";
        Transversary x = of(4, 3, 8);
        x.weigh(1, 7);
        x.die(2, true);
        dueThrow("ground(1)", ARGUMENT, () -> x.ground(1));
        dueThrow("ground(8)", ARGUMENT, () -> x.ground(8));
        dueThrow("ground(-1)", ARGUMENT, () -> x.ground(-1));
        due("ofFamily(0, 0) as before", x.ofFamily(0, 0), 2);
        due("ground(2)", x.ground(2), 4);
        due("ground(7)", x.ground(7), 128);
        dueThrow("ofFamily(0, 0)", INDEX, () -> x.ofFamily(0, 0));
        due("weigh(1, 2)", x.weigh(1, 2), 1);
        due("die(0, false)", x.die(0, false), 7);
        due("family()", x.family(), 0);
        due("ofFamily(0, 0) anew", x.ofFamily(0, 0), 0);
    }

    private static void weigh() {
        promise = "3 weigh";
        Transversary x = of(4, 3);
        due("weigh(0, 9)", x.weigh(0, 9), 1);
        due("weigh(0, 4)", x.weigh(0, 4), 9);
        due("cover(0, 1)", x.cover(0, 1), 2);
        dueThrow("weigh(4, 1)", INDEX, () -> x.weigh(4, 1));
        dueThrow("weigh(-1, 10)", INDEX, () -> x.weigh(-1, 10));
        dueThrow("weigh(0, 0)", ARGUMENT, () -> x.weigh(0, 0));
        dueThrow("weigh(0, 10)", ARGUMENT, () -> x.weigh(0, 10));
        due("weigh(0, 1)", x.weigh(0, 1), 4);
        x.die(2, true);
        due("weigh(2, 3) of a DEAD one", x.weigh(2, 3), 1);
    }

    private static void die() {
        promise = "4 die";
        Transversary x = of(4, 3, 2);
        due("die(0, true)", x.die(0, true), 3);
        due("die(0, true) again", x.die(0, true), 3);
        dueText("PARTS", partsOf(x, 0), "2");
        due("die(1, true)", x.die(1, true), 2);
        dueText("PARTS", partsOf(x, 0), "0");
        due("die(1, false)", x.die(1, false), 3);
        due("die(0, false)", x.die(0, false), 4);
        dueText("PARTS", partsOf(x, 0), "2 3");
        dueThrow("die(4, true)", INDEX, () -> x.die(4, true));
        dueThrow("die(-1, false)", INDEX, () -> x.die(-1, false));
    }

    private static void family() {
        promise = "5 family";
        Transversary x = new Transversary();
        for (int family = 0; family < 5; family++) {
            due("family()", x.family(), family);
        }
        dueThrow("family()", STATE, x::family);
        due("ofFamily(4, 0)", x.ofFamily(4, 0), 0);
        dueThrow("ofFamily(5, 0)", INDEX, () -> x.ofFamily(5, 0));
    }

    private static void addAndDrop() {
        promise = "6 add";
        Transversary x = of(4);
        due("add(0, 3)", x.add(0, 3), 2);
        due("add(0, 6)", x.add(0, 6), 2);
        due("add(0, 12)", x.add(0, 12), 3);
        due("add(0, 0)", x.add(0, 0), 0);
        dueThrow("add(1, 99)", INDEX, () -> x.add(1, 99));
        dueThrow("add(-1, 1)", INDEX, () -> x.add(-1, 1));
        dueThrow("add(0, 16)", ARGUMENT, () -> x.add(0, 16));
        dueThrow("add(0, -1)", ARGUMENT, () -> x.add(0, -1));
        dueThrow("add(0, 3)", STATE, () -> x.add(0, 3));
        promise = "7 drop";
        due("drop(0, 0)", x.drop(0, 0), 3);
        dueThrow("drop(0, 0)", STATE, () -> x.drop(0, 0));
        dueThrow("drop(0, 16)", ARGUMENT, () -> x.drop(0, 16));
        dueThrow("drop(0, -1)", ARGUMENT, () -> x.drop(0, -1));
        dueThrow("drop(5, 16)", INDEX, () -> x.drop(5, 16));
        x.die(1, true);
        due("drop(0, 12) with a DEAD POINT", x.drop(0, 12), 1);
        due("drop(0, 3)", x.drop(0, 3), 1);
        due("drop(0, 6), the last", x.drop(0, 6), 1);
        promise = "6 add";
        Transversary y = of(6);
        for (int set = 0; set < 40; set++) {
            y.add(0, set);
        }
        dueThrow("add(0, 40) with 40", STATE, () -> y.add(0, 40));
        dueThrow("add(0, 64) with 40", ARGUMENT, () -> y.add(0, 64));
        y.drop(0, 7);
        due("add(0, 40)", y.add(0, 40), 0);
        due("ofFamily(0, 0)", y.ofFamily(0, 0), 40);
    }

    private static void sow() {
        promise = "8 sow";
        Transversary x = new Transversary();
        x.die(3, true);
        due("sow(1, 3, 0)", x.sow(1, 3, 0), 1);
        due("sow(2, 3, 0)", x.sow(2, 3, 0), 1);
        due("sow(2, 1, 0)", x.sow(2, 1, 0), 2);
        due("sow(2, 2, 0)", x.sow(2, 2, 0), 2);
        dueText("PARTS without the DEAD POINT", partsOf(x, 0), "6");
        x.die(3, false);
        dueText("PARTS of 0", partsOf(x, 0), "14");
        dueText("PARTS of 2", partsOf(x, 2), "0 8");
        dueText("PARTS of 3", partsOf(x, 3), "0 10");
        dueThrow("sow(0, 1, 1)", ARGUMENT, () -> x.sow(0, 1, 1));
        dueThrow("sow(41, 1, 1)", ARGUMENT, () -> x.sow(41, 1, 1));
        dueThrow("sow(1, 0, 1)", ARGUMENT, () -> x.sow(1, 0, 1));
        dueThrow("sow(1, 4, 1)", ARGUMENT, () -> x.sow(1, 4, 1));
        dueThrow("sow(1, 1, -1)", ARGUMENT, () -> x.sow(1, 1, -1));
        dueThrow("sow(1, 1, 100)", ARGUMENT, () -> x.sow(1, 1, 100));
        due("sow(40, 3, 99)", x.sow(40, 3, 99), x.ofFamily(4, 0));
        dueThrow("sow(1, 1, 1) with 5", STATE, () -> x.sow(1, 1, 1));
        dueThrow("sow(1, 1, 100) with 5", ARGUMENT, () -> x.sow(1, 1, 100));
    }

    private static void familiesOutOfOthers() {
        leastBlockerMinor();
        mixAndShadow();
        pressAndSettle();
        kernelAndTurn();
        whatCanNotBeMade();
    }

    private static void leastBlockerMinor() {
        promise = "9 least";
        Transversary x = of(4, 1, 3, 6, 7);
        due("least(0)", x.least(0), 1);
        dueText("LEAST", partsOf(x, 1), "1 6");
        due("least(1) with an empty PART", tellLeast(of(4, 0, 1, 15)), 0);
        dueThrow("least(2)", INDEX, () -> x.least(2));
        dueThrow("least(-1)", INDEX, () -> x.least(-1));
        promise = "10 blocker";
        Transversary y = of(4, 3, 6, 12);
        due("blocker(0)", y.blocker(0), 1);
        dueText("BLOCKERS", partsOf(y, 1), "5 6 10");
        y.die(1, true);
        due("blocker(0)", y.blocker(0), 2);
        y.die(1, false);
        dueText("BLOCKERS without the DEAD POINT", partsOf(y, 2), "5");
        due("family()", y.family(), 3);
        due("blocker(3) without PARTS", y.blocker(3), 4);
        dueText("BLOCKERS without PARTS", partsOf(y, 4), "0");
        dueThrow("blocker(5)", INDEX, () -> y.blocker(5));
        promise = "11 minor";
        Transversary z = of(4, 3, 6, 12);
        due("minor(0, 1, false)", z.minor(0, 1, false), 1);
        dueText("without it", partsOf(z, 1), "12");
        due("minor(0, 1, true)", z.minor(0, 1, true), 2);
        dueText("with it", partsOf(z, 2), "1 4");
        z.die(1, true);
        due("minor(0, 1, true) of a DEAD POINT", z.minor(0, 1, true), 3);
        due("its SETS", z.ofFamily(3, 0), 0);
        due("minor(0, 1, false) of a DEAD POINT", z.minor(0, 1, false), 4);
        dueText("all PARTS", partsOf(z, 4), "1 4 12");
        dueThrow("minor(5, 0, true)", INDEX, () -> z.minor(5, 0, true));
        dueThrow("minor(0, 4, true)", INDEX, () -> z.minor(0, 4, true));
        dueThrow("minor(0, -1, false)", INDEX, () -> z.minor(0, -1, false));
    }

    private static int tellLeast(Transversary x) {
        return x.part(x.least(0), 0);
    }

    private static void mixAndShadow() {
        promise = "12 mix";
        Transversary x = of(4, 1, 2);
        tell(x, 2, 4);
        due("mix(0, 1, 0)", x.mix(0, 1, 0), 2);
        due("mix(0, 1, 1)", x.mix(0, 1, 1), 3);
        due("mix(0, 1, 2)", x.mix(0, 1, 2), 4);
        dueText("together", partsOf(x, 2), "2 3 5 6");
        dueText("in common", partsOf(x, 3), "0 2");
        dueText("in just one", partsOf(x, 4), "0 3 5 6");
        dueThrow("mix(5, 0, 9)", INDEX, () -> x.mix(5, 0, 9));
        dueThrow("mix(0, 5, 9)", INDEX, () -> x.mix(0, 5, 9));
        dueThrow("mix(0, -1, 0)", INDEX, () -> x.mix(0, -1, 0));
        dueThrow("mix(0, 1, 3)", ARGUMENT, () -> x.mix(0, 1, 3));
        dueThrow("mix(0, 1, -1)", ARGUMENT, () -> x.mix(0, 1, -1));
        promise = "13 shadow";
        Transversary y = of(4, 7, 8);
        due("shadow(0)", y.shadow(0), 1);
        dueText("SHADOW", partsOf(y, 1), "0 3 5 6");
        due("shadow of the empty SET", y.shadow(tell(y, 0)), 3);
        due("its SETS", y.ofFamily(3, 0), 0);
        dueThrow("shadow(4)", INDEX, () -> y.shadow(4));
    }

    private static void pressAndSettle() {
        promise = "14 press";
        Transversary x = of(4, 4, 5, 6);
        due("press(0, 2, 1)", x.press(0, 2, 1), 1);
        dueText("PRESSED", partsOf(x, 1), "2 3 6");
        due("press(1, 2, 1), where 2 stands already", x.press(tell(x, 2, 4), 2, 1), 3);
        dueText("as it was", partsOf(x, 3), "2 4");
        due("press(0, 0, 3) upwards", x.press(0, 0, 3), 4);
        dueText("PRESSED upwards", partsOf(x, 4), "4 6 12");
        x.die(3, true);
        dueThrow("press(5, 0, 0)", INDEX, () -> x.press(5, 0, 0));
        dueThrow("press(0, 4, 4)", INDEX, () -> x.press(0, 4, 4));
        dueThrow("press(0, 0, -1)", INDEX, () -> x.press(0, 0, -1));
        dueThrow("press(0, 1, 1)", ARGUMENT, () -> x.press(0, 1, 1));
        dueThrow("press(0, 3, 1)", ARGUMENT, () -> x.press(0, 3, 1));
        dueThrow("press(0, 1, 3)", ARGUMENT, () -> x.press(0, 1, 3));
        promise = "15 settle";
        Transversary y = of(4, 12);
        due("settle(0)", y.settle(0), 1);
        dueText("SETTLED", partsOf(y, 1), "3");
        due("settle(0)", y.settle(tell(y, 9, 10, 12)), 3);
        dueText("SETTLED", partsOf(y, 3), "3 5 9");
        y.die(0, true);
        due("settle(0)", y.settle(0), 4);
        dueText("SETTLED without the DEAD POINT", partsOf(y, 4), "6");
        dueThrow("settle(5)", INDEX, () -> y.settle(5));
    }

    private static void kernelAndTurn() {
        promise = "16 kernel";
        Transversary x = of(4, 3, 5, 9);
        due("kernel(0, 2)", x.kernel(0, 2), 1);
        dueText("KERNEL", partsOf(x, 1), "1");
        due("kernel(0, 3)", x.kernel(0, 3), 2);
        dueText("as it was", partsOf(x, 2), "3 5 9");
        due("kernel of APART ones", x.kernel(tell(x, 1, 2, 4, 12), 2), 4);
        dueText("the empty SET", partsOf(x, 4), "0");
        dueThrow("kernel(5, 0)", INDEX, () -> x.kernel(5, 0));
        dueThrow("kernel(0, 0)", ARGUMENT, () -> x.kernel(0, 0));
        dueThrow("kernel(0, 7)", ARGUMENT, () -> x.kernel(0, 7));
        Transversary z = of(5, 1, 3, 5, 24);
        due("kernel with the HEART a PART", z.kernel(0, 2), 1);
        dueText("KERNEL", partsOf(z, 1), "1 24");
        promise = "17 turn";
        Transversary y = of(4, 3, 5);
        due("turn(0)", y.turn(0), 1);
        dueText("TURNED", partsOf(y, 1), "10 12");
        y.die(3, true);
        due("turn(0)", y.turn(0), 2);
        y.die(3, false);
        dueText("TURNED without the DEAD POINT", partsOf(y, 2), "2 4");
        dueThrow("turn(3)", INDEX, () -> y.turn(3));
    }

    private static void whatCanNotBeMade() {
        promise = "9 to 17, what can not be made";
        Transversary x = of(7, 0, 1, 2, 3, 4, 5, 6, 7);
        tell(x, 0, 8, 16, 24, 32, 40, 48, 56);
        due("mix(0, 1, 0) of 64 SETS", x.mix(0, 1, 0), NOT_MADE);
        due("family()", x.family(), 2);
        x.family();
        x.family();
        due("least(0)", x.least(0), NOT_MADE);
        due("blocker(0)", x.blocker(0), NOT_MADE);
        due("minor(0, 0, true)", x.minor(0, 0, true), NOT_MADE);
        due("mix(0, 0, 1)", x.mix(0, 0, 1), NOT_MADE);
        due("shadow(0)", x.shadow(0), NOT_MADE);
        due("press(0, 0, 1)", x.press(0, 0, 1), NOT_MADE);
        due("settle(0)", x.settle(0), NOT_MADE);
        due("kernel(0, 1)", x.kernel(0, 1), NOT_MADE);
        due("turn(0)", x.turn(0), NOT_MADE);
        dueText("the last is as it was", partsOf(x, 4), "");
    }

    private static void coversPackingsPrices() {
        ofFamilyAndPart();
        cover();
        price();
        dualAndRing();
        gameAndRepair();
    }

    private static void ofFamilyAndPart() {
        promise = "18 ofFamily";
        int[] path = {3, 3, 2, 2, 2, 15, 3, 3, 0, 3};
        int[] empty = {0, 0, NONE, NONE, 0, 0, 0, 1, 1, 0};
        int[] crossing = {4, 4, 3, 1, 4, 15, 1, 1, 1, 6};
        for (int what = 0; what <= 9; what++) {
            due("ofFamily(0, " + what + ") of a path", of(4, 3, 6, 12).ofFamily(0, what), path[what]);
            due("ofFamily(0, " + what + ") without PARTS", of(4).ofFamily(0, what), empty[what]);
            due("ofFamily(0, " + what + ") of a star", of(4, 1, 3, 7, 9).ofFamily(0, what), crossing[what]);
        }
        Transversary x = of(4, 3, 2, 0);
        due("ofFamily(0, 8) with an empty PART", x.ofFamily(0, 8), 0);
        due("ofFamily(0, 8) of it alone", of(4, 0).ofFamily(0, 8), 1);
        x.die(0, true);
        due("ofFamily(0, 0) with a DEAD POINT", x.ofFamily(0, 0), 3);
        due("ofFamily(0, 1) with a DEAD POINT", x.ofFamily(0, 1), 2);
        dueThrow("ofFamily(1, 10)", INDEX, () -> x.ofFamily(1, 10));
        dueThrow("ofFamily(0, 10)", ARGUMENT, () -> x.ofFamily(0, 10));
        dueThrow("ofFamily(0, -1)", ARGUMENT, () -> x.ofFamily(0, -1));
        promise = "19 part";
        Transversary y = of(4, 12, 3);
        due("part(0, 0)", y.part(0, 0), 3);
        due("part(0, 1)", y.part(0, 1), 12);
        due("part(0, 2)", y.part(0, 2), NONE);
        due("part(0, 2147483647)", y.part(0, Integer.MAX_VALUE), NONE);
        dueThrow("part(1, -1)", INDEX, () -> y.part(1, -1));
        dueThrow("part(0, -1)", ARGUMENT, () -> y.part(0, -1));
    }

    private static void cover() {
        promise = "20 cover";
        Transversary x = of(4, 3, 6, 12);
        due("cover(0, 0)", x.cover(0, 0), 2);
        due("cover(0, 1)", x.cover(0, 1), 5);
        due("cover(0, 2) takes 1, then 2", x.cover(0, 2), 6);
        due("cover(0, 3)", x.cover(0, 3), 2);
        x.weigh(1, 5);
        x.weigh(3, 5);
        due("cover(0, 2) by WEIGHT", x.cover(0, 2), 5);
        x.weigh(0, 9);
        x.weigh(2, 9);
        due("cover(0, 0) by WEIGHT", x.cover(0, 0), 10);
        due("cover(0, 1) by WEIGHT", x.cover(0, 1), 10);
        x.add(0, 0);
        due("cover(0, 0) with an empty PART", x.cover(0, 0), NONE);
        due("cover(0, 1) with an empty PART", x.cover(0, 1), NONE);
        due("cover(0, 2) with an empty PART", x.cover(0, 2), NONE);
        due("cover(0, 3) with an empty PART", x.cover(0, 3), 3);
        Transversary y = of(4);
        for (int what = 0; what <= 3; what++) {
            due("cover(0, " + what + ") without PARTS", y.cover(0, what), 0);
        }
        dueThrow("cover(1, 4)", INDEX, () -> x.cover(1, 4));
        dueThrow("cover(0, 4)", ARGUMENT, () -> x.cover(0, 4));
        dueThrow("cover(0, -1)", ARGUMENT, () -> x.cover(0, -1));
    }

    private static void price() {
        promise = "21 price";
        Transversary x = of(4, 3, 5, 6);
        duePrice("a triangle", x, 3, 2);
        x.weigh(2, 2);
        duePrice("a triangle with a WEIGHT", x, 2, 1);
        x.die(0, true);
        duePrice("a triangle with a DEAD POINT", x, 3, 1);
        duePrice("no PARTS", of(4), 0, 1);
        duePrice("an empty PART", of(4, 3, 0), NONE, NONE);
        duePrice("the seven lines", of(7, 7, 25, 97, 42, 82, 52, 76), 7, 3);
        duePrice("all threes of five", of(5, 7, 11, 13, 14, 19, 21, 22, 25, 26, 28), 5, 3);
        dueThrow("price(1, true)", INDEX, () -> x.price(1, true));
        dueThrow("price(-1, false)", INDEX, () -> x.price(-1, false));
    }

    private static void duePrice(String what, Transversary x, int above, int under) {
        due("price(0, false) of " + what, x.price(0, false), above);
        due("price(0, true) of " + what, x.price(0, true), under);
    }

    private static void dualAndRing() {
        promise = "22 dual";
        Transversary x = of(4, 3, 6, 12, 7);
        tell(x, 5, 6, 10);
        tell(x, 3);
        due("dual(0, 1)", x.dual(0, 1), NONE);
        due("dual(1, 0)", x.dual(1, 0), NONE);
        due("dual(0, 2)", x.dual(0, 2), 3);
        due("dual(2, 0)", x.dual(2, 0), 1);
        dueThrow("dual(3, 0)", INDEX, () -> x.dual(3, 0));
        dueThrow("dual(0, 3)", INDEX, () -> x.dual(0, 3));
        Transversary y = of(4);
        tell(y, 0);
        due("dual of no PARTS and the empty one", y.dual(0, 1), NONE);
        promise = "23 ring";
        dueRings("a triangle", of(4, 3, 5, 6), 7, 7);
        dueRings("a ring of four", of(4, 3, 6, 12, 9), NONE, NONE);
        dueRings("threes around one POINT", of(4, 11, 13, 14), 7, NONE);
        dueRings("a ring of five", of(5, 3, 6, 12, 24, 17), 31, 31);
        dueRings("a ring of seven", of(7, 3, 6, 12, 24, 48, 96, 65), 127, 127);
        dueRings("the empty PART", of(4, 0), NONE, NONE);
        dueRings("no PARTS", of(4), NONE, NONE);
        Transversary z = of(4, 3, 5, 6);
        z.die(1, true);
        dueRings("a triangle with a DEAD POINT", z, NONE, NONE);
        dueThrow("ring(1, true)", INDEX, () -> z.ring(1, true));
        dueThrow("ring(-1, false)", INDEX, () -> z.ring(-1, false));
    }

    private static void dueRings(String what, Transversary x, int ring, int knot) {
        due("ring(0, false) of " + what, x.ring(0, false), ring);
        due("ring(0, true) of " + what, x.ring(0, true), knot);
    }

    private static void gameAndRepair() {
        promise = "24 game";
        due("game(0) of a triangle", of(3, 3, 5, 6).game(0), 0);
        due("game(0) of one two", of(4, 3).game(0), NONE);
        due("game(0) of one POINT", of(4, 8).game(0), 3);
        due("game(0) of two twos at 2", of(4, 6, 12).game(0), 2);
        due("game(0) without PARTS", of(4).game(0), NONE);
        Transversary x = of(4, 0);
        due("game(0) with an empty PART", x.game(0), 0);
        x.die(0, true);
        due("game(0) with a DEAD POINT", x.game(0), 1);
        x.die(1, true);
        x.die(2, true);
        x.die(3, true);
        due("game(0) without ALIVE POINTS", x.game(0), NONE);
        dueThrow("game(1)", INDEX, () -> x.game(1));
        promise = "25 repair";
        Transversary y = of(4, 3, 6, 12);
        due("repair(0, 6, 1)", y.repair(0, 6, 1), 5);
        due("repair(0, 15, 1)", y.repair(0, 15, 1), 13);
        due("repair(0, 1, 0), no COVER itself", y.repair(0, 1, 0), 6);
        due("repair without one", of(4, 2).repair(0, 2, 1), NONE);
        due("repair without PARTS", of(4).repair(0, 3, 1), 1);
        y.die(3, true);
        dueThrow("repair(1, 99, 99)", INDEX, () -> y.repair(1, 99, 99));
        dueThrow("repair(0, 99, 4)", INDEX, () -> y.repair(0, 99, 4));
        dueThrow("repair(0, 1, -1)", INDEX, () -> y.repair(0, 1, -1));
        dueThrow("repair(0, 16, 0)", ARGUMENT, () -> y.repair(0, 16, 0));
        dueThrow("repair(0, -1, 0)", ARGUMENT, () -> y.repair(0, -1, 0));
        dueThrow("repair(0, 9, 0)", ARGUMENT, () -> y.repair(0, 9, 0));
        dueThrow("repair(0, 8, 3)", ARGUMENT, () -> y.repair(0, 8, 3));
        dueThrow("repair(0, 2, 0)", ARGUMENT, () -> y.repair(0, 2, 0));
    }

    private static void flowersAndSamples() {
        flowerAndRich();
        growthNetFits();
        cascades();
    }

    private static void flowerAndRich() {
        promise = "26 flower";
        dueFlower("three around 0", of(4, 3, 5, 9), 3, 1);
        dueFlower("the HEART itself", of(4, 1, 3, 5), 3, 1);
        dueFlower("APART ones", of(4, 1, 2, 12), 3, 0);
        dueFlower("with the empty PART", of(4, 0, 1, 3), 2, 0);
        dueFlower("one PART", of(4, 15), 1, 0);
        dueFlower("no PARTS", of(4), 0, NONE);
        Transversary x = of(4, 3, 5, 9);
        x.die(0, true);
        dueFlower("a DEAD HEART", x, 3, 0);
        dueThrow("flower(1, 2)", INDEX, () -> x.flower(1, 2));
        dueThrow("flower(0, 2)", ARGUMENT, () -> x.flower(0, 2));
        dueThrow("flower(0, -1)", ARGUMENT, () -> x.flower(0, -1));
        promise = "27 rich";
        Transversary y = of(4, 0, 1, 2, 3);
        due("rich(0, 0)", y.rich(0, 0), 2);
        due("rich(0, 1)", y.rich(0, 1), 4);
        y.die(1, true);
        due("rich(0, 0) with a DEAD POINT", y.rich(0, 0), 1);
        due("rich(0, 1) with a DEAD POINT", y.rich(0, 1), 2);
        due("rich(0, 0) without PARTS", of(4).rich(0, 0), NONE);
        due("rich(0, 1) without PARTS", of(4).rich(0, 1), 0);
        due("rich(0, 0) of one PART", of(4, 5).rich(0, 0), 0);
        due("rich(0, 1) of one PART", of(4, 5).rich(0, 1), 1);
        dueThrow("rich(1, 2)", INDEX, () -> y.rich(1, 2));
        dueThrow("rich(0, 2)", ARGUMENT, () -> y.rich(0, 2));
        dueThrow("rich(0, -1)", ARGUMENT, () -> y.rich(0, -1));
    }

    private static void dueFlower(String what, Transversary x, int petals, int heart) {
        due("flower(0, 0) of " + what, x.flower(0, 0), petals);
        due("flower(0, 1) of " + what, x.flower(0, 1), heart);
    }

    private static void growthNetFits() {
        promise = "28 growth";
        Transversary x = of(4, 0, 1, 2, 3);
        int[] growth = {1, 2, 4, 4, 4, 0, 0, 0};
        for (int size = 0; size <= 7; size++) {
            due("growth(0, " + size + ")", x.growth(0, size), growth[size]);
        }
        x.die(3, true);
        due("growth(0, 4) with a DEAD POINT", x.growth(0, 4), 0);
        due("growth(0, 0) without PARTS", of(4).growth(0, 0), 0);
        dueThrow("growth(1, 8)", INDEX, () -> x.growth(1, 8));
        dueThrow("growth(0, 8)", ARGUMENT, () -> x.growth(0, 8));
        dueThrow("growth(0, -1)", ARGUMENT, () -> x.growth(0, -1));
        promise = "29 net";
        Transversary y = of(4, 1, 6, 15);
        due("net(0, 0)", y.net(0, 0), 3);
        due("net(0, 1)", y.net(0, 1), 3);
        due("net(0, 2)", y.net(0, 2), 2);
        due("net(0, 4)", y.net(0, 4), 1);
        due("net(0, 5)", y.net(0, 5), 0);
        y.weigh(1, 2);
        due("net(0, 2) by WEIGHT", y.net(0, 2), 4);
        y.add(0, 0);
        due("net(0, 0) with an empty PART", y.net(0, 0), NONE);
        due("net(0, 1) with an empty PART", y.net(0, 1), 5);
        dueThrow("net(1, 8)", INDEX, () -> y.net(1, 8));
        dueThrow("net(0, 8)", ARGUMENT, () -> y.net(0, 8));
        dueThrow("net(0, -1)", ARGUMENT, () -> y.net(0, -1));
        promise = "30 fits";
        Transversary z = of(4, 3, 6, 7, 12);
        due("fits(0, 0, 0)", z.fits(0, 0, 0), 4);
        due("fits(0, 2, 0)", z.fits(0, 2, 0), 3);
        due("fits(0, 2, 1)", z.fits(0, 2, 1), 1);
        due("fits(0, 2, 2)", z.fits(0, 2, 2), 0);
        z.die(3, true);
        due("fits(0, 8, 8) of a DEAD POINT", z.fits(0, 8, 8), 4);
        dueThrow("fits(1, 16, 0)", INDEX, () -> z.fits(1, 16, 0));
        dueThrow("fits(0, 16, 0)", ARGUMENT, () -> z.fits(0, 16, 0));
        dueThrow("fits(0, 0, 16)", ARGUMENT, () -> z.fits(0, 0, 16));
        dueThrow("fits(0, -1, 0)", ARGUMENT, () -> z.fits(0, -1, 0));
        dueThrow("fits(0, 0, -1)", ARGUMENT, () -> z.fits(0, 0, -1));
    }

    private static void cascades() {
        Transversary x = new Transversary();
        promise = "31 leastShadow";
        for (int rank = 1; rank <= 7; rank++) {
            int[] shadows = shadowsOfFirst(rank);
            for (int many = 1; many <= 500; many++) {
                due("leastShadow(" + many + ", " + rank + ")", x.leastShadow(many, rank), shadows[many]);
            }
        }
        dueThrow("leastShadow(0, 1)", ARGUMENT, () -> x.leastShadow(0, 1));
        dueThrow("leastShadow(501, 1)", ARGUMENT, () -> x.leastShadow(501, 1));
        dueThrow("leastShadow(1, 0)", ARGUMENT, () -> x.leastShadow(1, 0));
        dueThrow("leastShadow(1, 8)", ARGUMENT, () -> x.leastShadow(1, 8));
        promise = "32 cascade";
        dueText("cascade(5, 2)", x.cascade(5, 2), "C(3,2)+C(2,1)");
        dueText("cascade(6, 2)", x.cascade(6, 2), "C(4,2)");
        dueText("cascade(1, 7)", x.cascade(1, 7), "C(7,7)");
        dueText("cascade(7, 7)", x.cascade(7, 7), "C(7,7)+C(6,6)+C(5,5)+C(4,4)+C(3,3)+C(2,2)+C(1,1)");
        dueText("cascade(500, 1)", x.cascade(500, 1), "C(500,1)");
        dueText("cascade(500, 2)", x.cascade(500, 2), "C(32,2)+C(4,1)");
        dueText("cascade(37, 3)", x.cascade(37, 3), "C(7,3)+C(2,2)+C(1,1)");
        dueThrow("cascade(0, 1)", ARGUMENT, () -> x.cascade(0, 1).length());
        dueThrow("cascade(501, 1)", ARGUMENT, () -> x.cascade(501, 1).length());
        dueThrow("cascade(1, 0)", ARGUMENT, () -> x.cascade(1, 0).length());
        dueThrow("cascade(1, 8)", ARGUMENT, () -> x.cascade(1, 8).length());
    }

    /** The SHADOWS of the first m SETS of that SIZE by their numbers: no m SETS have a smaller one. */
    private static int[] shadowsOfFirst(int rank) {
        int[] shadows = new int[501];
        Set<Set<Integer>> shadow = new HashSet<>();
        List<Integer> set = new ArrayList<>();
        for (int point = 0; point < rank; point++) {
            set.add(point);
        }
        for (int many = 1; many <= 500; many++) {
            for (int point : set) {
                Set<Integer> less = new TreeSet<>(set);
                less.remove(point);
                shadow.add(less);
            }
            shadows[many] = shadow.size();
            int place = 0;
            while (place + 1 < rank && set.get(place) + 1 == set.get(place + 1)) {
                set.set(place, place);
                place++;
            }
            set.set(place, set.get(place) + 1);
        }
        return shadows;
    }

    private static void signsColoursTrees() {
        evenAndColours();
        waysAndResample();
        joins();
    }

    private static void evenAndColours() {
        promise = "33 even";
        dueEven("a path", of(4, 3, 6, 12), 0, 5);
        dueEven("a triangle", of(4, 3, 5, 6), 2, 0);
        dueEven("three POINTS", of(4, 7), 1, 1);
        dueEven("no PARTS", of(4), 0, 0);
        dueEven("one POINT and two", of(4, 1, 6), 1, 2);
        Transversary x = of(4, 7);
        x.die(0, true);
        dueEven("three POINTS, one DEAD", x, 0, 2);
        dueThrow("even(1, 2)", INDEX, () -> x.even(1, 2));
        dueThrow("even(0, 2)", ARGUMENT, () -> x.even(0, 2));
        dueThrow("even(0, -1)", ARGUMENT, () -> x.even(0, -1));
        promise = "34 colours";
        due("colours(0) of a path", of(4, 3, 6, 12).colours(0), 2);
        due("colours(0) of a triangle", of(4, 3, 5, 6).colours(0), 3);
        due("colours(0) of all twos of four", of(4, 3, 5, 6, 9, 10, 12).colours(0), 4);
        due("colours(0) of the seven lines", of(7, 7, 25, 97, 42, 82, 52, 76).colours(0), 3);
        due("colours(0) of small PARTS", of(4, 0, 1, 2).colours(0), 1);
        due("colours(0) without PARTS", of(4).colours(0), 1);
        Transversary y = of(2, 3);
        y.die(0, true);
        due("colours(0) with a DEAD POINT", y.colours(0), 1);
        y.die(1, true);
        due("colours(0) without ALIVE POINTS", y.colours(0), 0);
        dueThrow("colours(1)", INDEX, () -> y.colours(1));
    }

    private static void dueEven(String what, Transversary x, int tilt, int set) {
        due("even(0, 0) of " + what, x.even(0, 0), tilt);
        due("even(0, 1) of " + what, x.even(0, 1), set);
    }

    private static void waysAndResample() {
        promise = "35 ways";
        Transversary x = of(2, 3);
        due("ways(0, 2, 0)", x.ways(0, 2, 0), 2);
        due("ways(0, 2, 1)", x.ways(0, 2, 1), 2);
        due("ways(0, 3, 0)", x.ways(0, 3, 0), 6);
        due("ways(0, 3, 2) without PARTS", of(7).ways(0, 3, 2), 2187);
        due("ways(0, 2, 0) with an empty PART", of(2, 0).ways(0, 2, 0), 0);
        due("ways(0, 2, 1) with an empty PART", of(2, 0).ways(0, 2, 1), 4);
        due("ways(0, 3, 1) of one POINT", of(3, 4).ways(0, 3, 1), 18);
        x.die(0, true);
        x.die(1, true);
        due("ways(0, 2, 1) without ALIVE POINTS", x.ways(0, 2, 1), 1);
        dueThrow("ways(1, 4, 4)", INDEX, () -> x.ways(1, 4, 4));
        dueThrow("ways(0, 1, 0)", ARGUMENT, () -> x.ways(0, 1, 0));
        dueThrow("ways(0, 4, 0)", ARGUMENT, () -> x.ways(0, 4, 0));
        dueThrow("ways(0, 2, 2)", ARGUMENT, () -> x.ways(0, 2, 2));
        dueThrow("ways(0, 3, 3)", ARGUMENT, () -> x.ways(0, 3, 3));
        dueThrow("ways(0, 3, -1)", ARGUMENT, () -> x.ways(0, 3, -1));
        promise = "36 resample";
        // the row of 0 begins with 23, 94, 62, 58, 3: modulo 2 this is 1, 0, 0, 0, 1
        due("resample(0, 0) of nothing to do", of(2, 3).resample(0, 0), 1);
        due("resample(0, 0) that takes 6 once", of(3, 3, 6).resample(0, 0), 128 + 5);
        due("resample(0, 5) of no end", of(3, 3, 5, 6).resample(0, 5), NONE);
        due("resample(0, 8) that takes just 60", of(6, 41, 52, 18, 24, 42, 11).resample(0, 8), 60 * 128 + 14);
        due("resample(0, 0) without PARTS", of(4).resample(0, 0), 1);
        due("resample(0, 0) of small PARTS", of(4, 0, 1, 2).resample(0, 0), 1);
        Transversary y = of(3, 7);
        y.die(1, true);
        due("resample(0, 0) with a DEAD POINT", y.resample(0, 0), 1);
        dueThrow("resample(1, 100)", INDEX, () -> y.resample(1, 100));
        dueThrow("resample(0, 100)", ARGUMENT, () -> y.resample(0, 100));
        dueThrow("resample(0, -1)", ARGUMENT, () -> y.resample(0, -1));
    }

    private static void joins() {
        promise = "37 joins";
        dueJoins("a path", of(4, 3, 6, 12), 1, 6, 0, 1);
        dueJoins("a triangle", of(4, 3, 5, 6), 0, 0, 3, 2);
        dueJoins("a triangle in a PART", of(4, 3, 5, 6, 7), 1, 6, 0, 2);
        dueJoins("a ring of four", of(4, 3, 6, 12, 9), 0, 0, 4, 2);
        dueJoins("all four", of(4, 15), 1, 5, 0, 3);
        dueJoins("the empty PART", of(4, 0), 1, 1, 0, 0);
        dueJoins("no PARTS", of(4), 1, 0, 0, 0);
        Transversary x = of(4, 3, 5, 6);
        x.die(0, true);
        dueJoins("a triangle with a DEAD POINT", x, 1, 4, 0, 1);
        dueThrow("joins(1, 4)", INDEX, () -> x.joins(1, 4));
        dueThrow("joins(0, 4)", ARGUMENT, () -> x.joins(0, 4));
        dueThrow("joins(0, -1)", ARGUMENT, () -> x.joins(0, -1));
    }

    private static void dueJoins(String what, Transversary x, int... want) {
        for (int asked = 0; asked <= 3; asked++) {
            due("joins(0, " + asked + ") of " + what, x.joins(0, asked), want[asked]);
        }
    }

    private static void chainsHolesFieldsTests() {
        chainsAndBracket();
        facesAndCollapse();
        rankOutcomeTells();
        soundAndDigest();
    }

    private static void chainsAndBracket() {
        promise = "38 chains";
        dueChains("a chain and one", of(4, 1, 3, 7, 4), 3, 2, 1, 2);
        dueChains("all SETS of three POINTS", of(3, 0, 1, 2, 3, 4, 5, 6, 7), 4, 3, 1, 1);
        dueChains("a two and a one", of(4, 3, 4), 1, 2, 5, 12);
        dueChains("all twos of four", of(4, 3, 5, 6, 9, 10, 12), 1, 6, 1, 1);
        dueChains("no PARTS", of(4), 0, 0, 0, 1);
        dueChains("a tie that has to change", of(4, 1, 2, 3, 5), 2, 2, 1, 2);
        Transversary x = of(4, 3, 4);
        x.die(3, true);
        dueChains("with a DEAD POINT", x, 1, 2, 2, 3);
        dueThrow("chains(1, 4)", INDEX, () -> x.chains(1, 4));
        dueThrow("chains(0, 4)", ARGUMENT, () -> x.chains(0, 4));
        dueThrow("chains(0, -1)", ARGUMENT, () -> x.chains(0, -1));
        promise = "39 bracket";
        Transversary y = new Transversary();
        due("bracket(0, true)", y.bracket(0, true), 1);
        due("bracket(0, false)", y.bracket(0, false), NONE);
        due("bracket(15, true)", y.bracket(15, true), NONE);
        due("bracket(15, false)", y.bracket(15, false), 7);
        due("bracket(5, true)", y.bracket(5, true), 13);
        due("bracket(5, false)", y.bracket(5, false), 4);
        due("bracket(10, true)", y.bracket(10, true), NONE);
        due("bracket(12, false)", y.bracket(12, false), NONE);
        due("bracket(1, true)", y.bracket(1, true), 3);
        y.die(0, true);
        due("bracket(0, true) with a DEAD POINT", y.bracket(0, true), 1);
        dueThrow("bracket(16, true)", ARGUMENT, () -> y.bracket(16, true));
        dueThrow("bracket(-1, false)", ARGUMENT, () -> y.bracket(-1, false));
    }

    private static void dueChains(String what, Transversary x, int... want) {
        for (int asked = 0; asked <= 3; asked++) {
            due("chains(0, " + asked + ") of " + what, x.chains(0, asked), want[asked]);
        }
    }

    private static void facesAndCollapse() {
        promise = "40 faces";
        Transversary hollow = of(4, 3, 5, 6);
        dueFaces("a hollow triangle", hollow, false, 3, 3, 0, 0, 0, 0, 0);
        dueFaces("a hollow triangle", hollow, true, 1, 1, 0, 0, 0, 0, 0);
        dueFaces("a full triangle and a POINT", of(4, 7, 8), true, 2, 0, 0, 0, 0, 0, 0);
        dueFaces("a ball's skin", of(4, 7, 11, 13, 14), true, 1, 0, 1, 0, 0, 0, 0);
        dueFaces("all seven POINTS", of(7, 127), false, 7, 21, 35, 35, 21, 7, 1);
        dueFaces("all seven POINTS", of(7, 127), true, 1, 0, 0, 0, 0, 0, 0);
        dueFaces("the empty PART", of(4, 0), false, 0, 0, 0, 0, 0, 0, 0);
        dueFaces("no PARTS", of(4), true, 0, 0, 0, 0, 0, 0, 0);
        hollow.die(0, true);
        dueFaces("a hollow triangle with a DEAD POINT", hollow, false, 2, 1, 0, 0, 0, 0, 0);
        dueThrow("faces(1, 7, true)", INDEX, () -> hollow.faces(1, 7, true));
        dueThrow("faces(0, 7, true)", ARGUMENT, () -> hollow.faces(0, 7, true));
        dueThrow("faces(0, -1, false)", ARGUMENT, () -> hollow.faces(0, -1, false));
        promise = "41 collapse";
        dueCollapse("a full triangle", of(4, 7), 3, 1);
        dueCollapse("a hollow triangle", of(4, 3, 5, 6), 0, 6);
        dueCollapse("a hollow triangle with a way to it", of(4, 3, 5, 6, 12), 1, 6);
        dueCollapse("all seven POINTS", of(7, 127), 63, 1);
        dueCollapse("no PARTS", of(4), 0, 0);
        dueThrow("collapse(1, 2)", INDEX, () -> hollow.collapse(1, 2));
        dueThrow("collapse(0, 2)", ARGUMENT, () -> hollow.collapse(0, 2));
        dueThrow("collapse(0, -1)", ARGUMENT, () -> hollow.collapse(0, -1));
        due("ofFamily(0, 0), nothing is changed", hollow.ofFamily(0, 0), 3);
    }

    private static void dueFaces(String what, Transversary x, boolean isHole, int... want) {
        for (int dimension = 0; dimension <= 6; dimension++) {
            due("faces(0, " + dimension + ", " + isHole + ") of " + what,
                    x.faces(0, dimension, isHole), want[dimension]);
        }
    }

    private static void dueCollapse(String what, Transversary x, int steps, int left) {
        due("collapse(0, 0) of " + what, x.collapse(0, 0), steps);
        due("collapse(0, 1) of " + what, x.collapse(0, 1), left);
    }

    private static void rankOutcomeTells() {
        promise = "42 rank";
        dueRank("a triangle", of(4, 3, 5, 6), 2, 3, 3);
        dueRank("the seven lines", of(7, 7, 25, 97, 42, 82, 52, 76), 4, 6, 7);
        dueRank("threes of four", of(4, 7, 11, 13, 14), 4, 3, 4);
        dueRank("fives of six", of(6, 31, 47, 55, 59, 61, 62), 6, 6, 5);
        dueRank("the empty PART", of(4, 0), 0, 0, 0);
        dueRank("no PARTS", of(4), 0, 0, 0);
        Transversary x = of(4, 3, 5, 6);
        x.die(0, true);
        dueRank("a triangle with a DEAD POINT", x, 2, 2, 2);
        dueThrow("rank(1, 4)", INDEX, () -> x.rank(1, 4));
        for (int modulus : new int[] {-2, 0, 1, 4, 6, 7}) {
            dueThrow("rank(0, " + modulus + ")", ARGUMENT, () -> x.rank(0, modulus));
        }
        promise = "43 outcome";
        Transversary y = of(4, 3, 6, 12);
        int[] outcomes = {0, 1, 3, 3, 6, 7};
        for (int ill = 0; ill < outcomes.length; ill++) {
            due("outcome(0, " + ill + ")", y.outcome(0, ill), outcomes[ill]);
        }
        y.die(1, true);
        due("outcome(0, 2) of a DEAD POINT", y.outcome(0, 2), 0);
        dueThrow("outcome(1, 16)", INDEX, () -> y.outcome(1, 16));
        dueThrow("outcome(0, 16)", ARGUMENT, () -> y.outcome(0, 16));
        dueThrow("outcome(0, -1)", ARGUMENT, () -> y.outcome(0, -1));
        Transversary z = of(6);
        for (int set = 0; set < 40; set++) {
            z.add(0, set);
        }
        due("outcome(0, 63) of 40 TESTS", z.outcome(0, 63), (1L << 40) - 2);
        promise = "44 tells";
        dueTells("three POINTS", of(3, 1, 2, 4), 3, 8);
        dueTells("a two", of(2, 3), 0, 2);
        dueTells("tests by bits", of(3, 3, 5), 1, 4);
        dueTells("no PARTS", of(4), 0, 1);
        Transversary w = of(2, 3);
        w.die(0, true);
        dueTells("a two with a DEAD POINT", w, 1, 2);
        w.die(1, true);
        dueTells("no ALIVE POINTS", w, 0, 1);
        dueThrow("tells(1, 2)", INDEX, () -> w.tells(1, 2));
        dueThrow("tells(0, 2)", ARGUMENT, () -> w.tells(0, 2));
        dueThrow("tells(0, -1)", ARGUMENT, () -> w.tells(0, -1));
    }

    private static void dueRank(String what, Transversary x, int byTwo, int byThree, int byFive) {
        due("rank(0, 2) of " + what, x.rank(0, 2), byTwo);
        due("rank(0, 3) of " + what, x.rank(0, 3), byThree);
        due("rank(0, 5) of " + what, x.rank(0, 5), byFive);
    }

    private static void dueTells(String what, Transversary x, int told, int many) {
        due("tells(0, 0) of " + what, x.tells(0, 0), told);
        due("tells(0, 1) of " + what, x.tells(0, 1), many);
    }

    private static void soundAndDigest() {
        promise = "45 isSound";
        due("isSound() without FAMILIES", new Transversary().isSound() ? 1 : 0, 1);
        due("isSound() with an empty PART", of(4, 0, 3).isSound() ? 1 : 0, 1);
        due("isSound() of the seven lines", of(7, 7, 25, 97, 42, 82, 52, 76).isSound() ? 1 : 0, 1);
        Transversary weighed = of(5, 3, 6, 12, 24, 17);
        weighed.weigh(2, 9);
        due("isSound() with WEIGHTS", weighed.isSound() ? 1 : 0, 1);
        promise = "46 digest";
        due("digest() of a two", of(2, 3).digest(), digestOf(2, 1, 1,
                1, 1, 2, 2, 1, 3, 1, 2, 1, 0, 3,
                1, 1, 1, 1, 1, 1, NONE,
                1, 0, 0, 1, 0, 1, 2, 2,
                1, 3, 0, 1, 1, 1, 1, 1,
                1, 0, 0, 1, 1, 1, 1, 0, 2,
                1));
        due("digest() of nothing", of(3).digest(), digestOf(3, 1, 1, 1,
                0, 0, NONE, NONE, 0, 0, 0, 1, 1, 0,
                0, 0, 0, 0, 0, 1, NONE,
                0, NONE, NONE, 0, 0, 0, 1, 8,
                1, 0, 0, 0, 0, 0, 0, 1,
                0, 0, 0, 0, 0, 0, 0, 0, 1,
                1));
        Transversary x = of(5, 3, 6, 12);
        long before = x.digest();
        due("digest() again", x.digest(), before);
        x.weigh(4, 2);
        due("digest() with another WEIGHT", x.digest() == before ? 1 : 0, 0);
    }
}
