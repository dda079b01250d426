import java.util.NoSuchElementException;

/** Promises 10 to 18: tents and heaters. */
public final class TentsTest {
    public static void main(String[] args) {
        tent();
        tentOf();
        waiting();
        join();
        joinWithoutTowels();
        heater();
        heaterOf();
        heat();
        cold();
        gas();
        Checks.end();
    }

    private static void tent() {
        TubHire hire = new TubHire();
        Checks.fails("tent(-1)", IllegalArgumentException.class, () -> hire.tent(-1));
        Checks.fails("tent(10)", IllegalArgumentException.class, () -> hire.tent(10));
        int[] slopes = {0, 9, 4, 1, 8};
        for (int i = 0; i < slopes.length; i++) {
            Checks.due("tent " + i, hire.tent(slopes[i]), i);
            Checks.due("its slope", hire.tentOf(i, 0), slopes[i]);
        }
        Checks.refused(hire, "a sixth tent", 1, 5, () -> hire.tent(0));
        Checks.fails("a sixth tent of no slope", IllegalArgumentException.class, () -> hire.tent(10));
        Checks.due("the tents", hire.number(4), 5);
    }

    private static void tentOf() {
        TubHire hire = new TubHire();
        hire.tent(7);
        hire.tent(3);
        dueOf(hire, 0, 7, -1, -1, 0, 0);
        hire.tub(1);
        hire.tub(1);
        hire.heater();
        hire.heater();
        hire.out(1, 0);
        hire.heat(1, 0);
        hire.join(0);
        hire.join(0);
        dueOf(hire, 0, 7, 1, 1, 2, 0);
        dueOf(hire, 1, 3, -1, -1, 0, 0);
        hire.pass(5);
        dueOf(hire, 0, 7, 1, 1, 1, 1);
        Checks.fails("tentOf(2, 0)", IndexOutOfBoundsException.class, () -> hire.tentOf(2, 0));
        Checks.fails("tentOf(-1, 9)", IndexOutOfBoundsException.class, () -> hire.tentOf(-1, 9));
        Checks.fails("tentOf(5, 0)", IndexOutOfBoundsException.class, () -> hire.tentOf(5, 0));
        Checks.fails("tentOf(0, 5)", IllegalArgumentException.class, () -> hire.tentOf(0, 5));
        Checks.fails("tentOf(0, -1)", IllegalArgumentException.class, () -> hire.tentOf(0, -1));
    }

    private static void dueOf(TubHire hire, int tent, int... wanted) {
        for (int what = 0; what < wanted.length; what++) {
            Checks.due("tentOf(" + tent + ", " + what + ")", hire.tentOf(tent, what), wanted[what]);
        }
    }

    private static void waiting() {
        TubHire hire = Checks.withTubOut(1, 0);
        hire.tub(1);
        hire.tent(0);
        hire.out(1, 1);
        hire.heater();
        hire.heat(0, 0);
        Checks.fails("waiting(0, 0) in an empty queue", NoSuchElementException.class, () -> hire.waiting(0, 0));
        hire.join(0);
        hire.join(1);
        hire.join(0);
        hire.join(0);
        Checks.due("waiting(0, 0)", hire.waiting(0, 0), 0);
        Checks.due("waiting(0, 1)", hire.waiting(0, 1), 2);
        Checks.due("waiting(0, 2)", hire.waiting(0, 2), 3);
        Checks.due("waiting(1, 0)", hire.waiting(1, 0), 1);
        Checks.fails("waiting(0, 3)", NoSuchElementException.class, () -> hire.waiting(0, 3));
        Checks.fails("waiting(0, -1)", NoSuchElementException.class, () -> hire.waiting(0, -1));
        Checks.fails("waiting(0, 6)", NoSuchElementException.class, () -> hire.waiting(0, 6));
        Checks.fails("waiting(2, -1)", IndexOutOfBoundsException.class, () -> hire.waiting(2, -1));
        Checks.fails("waiting(-1, 0)", IndexOutOfBoundsException.class, () -> hire.waiting(-1, 0));
        hire.pass(5);
        Checks.due("waiting(0, 0) after a bath", hire.waiting(0, 0), 2);
        Checks.due("waiting(0, 1) after a bath", hire.waiting(0, 1), 3);
        Checks.fails("waiting(0, 2) after a bath", NoSuchElementException.class, () -> hire.waiting(0, 2));
    }

    private static void join() {
        TubHire hire = new TubHire();
        hire.tent(0);
        Checks.refused(hire, "join(0) without a tub", 6, 0, () -> hire.join(0));
        hire.tub(1);
        hire.out(0, 0);
        for (int guest = 0; guest < 6; guest++) {
            Checks.due("guest " + guest, hire.join(0), guest);
        }
        Checks.due("the clean towels", hire.number(7), 6);
        Checks.refused(hire, "a seventh guest", 1, 6, () -> hire.join(0));
        hire.back(0);
        Checks.refused(hire, "a seventh guest without a tub", 1, 6, () -> hire.join(0));
        Checks.fails("join(1)", IndexOutOfBoundsException.class, () -> hire.join(1));
        Checks.fails("join(-1)", IndexOutOfBoundsException.class, () -> hire.join(-1));
        Checks.due("those who wait", hire.number(9), 6);
        Checks.due("those who came", hire.number(10), 6);
    }

    private static void joinWithoutTowels() {
        TubHire hire = Checks.withWarmTub(9);
        hire.tub(1);
        hire.tent(0);
        hire.tent(0);
        hire.out(1, 1);
        for (int i = 0; i < 6; i++) {
            hire.join(0);
            hire.join(1);
        }
        hire.pass(1);
        Checks.refused(hire, "join(0) without a clean towel", 10, 1, () -> hire.join(0));
        Checks.refused(hire, "join(1) without a clean towel", 1, 6, () -> hire.join(1));
        Checks.refused(hire, "join(2) without a clean towel or a tub", 6, 2, () -> hire.join(2));
        hire.wash(1);
        Checks.due("join(0) after a wash", hire.join(0), 12);
    }

    private static void heater() {
        TubHire hire = new TubHire();
        for (int i = 0; i < 4; i++) {
            Checks.due("heater " + i, hire.heater(), i);
        }
        Checks.refused(hire, "a fifth heater", 1, 4, hire::heater);
        Checks.due("the heaters", hire.number(5), 4);
        Checks.due("their gas", hire.number(6), 80);
    }

    private static void heaterOf() {
        TubHire hire = new TubHire();
        hire.heater();
        hire.heater();
        hire.tent(0);
        hire.tent(0);
        hire.heat(1, 1);
        hire.gas(1, 1);
        Checks.due("the gas of heater 0", hire.heaterOf(0, true), 20);
        Checks.due("the tent of heater 0", hire.heaterOf(0, false), -1);
        Checks.due("the gas of heater 1", hire.heaterOf(1, true), 25);
        Checks.due("the tent of heater 1", hire.heaterOf(1, false), 1);
        Checks.fails("heaterOf(2)", IndexOutOfBoundsException.class, () -> hire.heaterOf(2, true));
        Checks.fails("heaterOf(-1)", IndexOutOfBoundsException.class, () -> hire.heaterOf(-1, false));
        Checks.fails("heaterOf(4)", IndexOutOfBoundsException.class, () -> hire.heaterOf(4, true));
    }

    private static void heat() {
        TubHire hire = new TubHire();
        hire.heater();
        hire.heater();
        hire.tent(0);
        hire.tent(0);
        hire.gas(0, 2);
        Checks.due("heat(0, 1)", hire.heat(0, 1), 30);
        Checks.due("the heater of the tent", hire.tentOf(1, 2), 0);
        Checks.refused(hire, "heat(0, 0) from a tent", 7, 1, () -> hire.heat(0, 0));
        Checks.refused(hire, "heat(0, 1) again", 7, 1, () -> hire.heat(0, 1));
        Checks.refused(hire, "heat(1, 1) to a heater", 8, 0, () -> hire.heat(1, 1));
        Checks.due("heat(1, 0)", hire.heat(1, 0), 20);
        Checks.refused(hire, "heat(1, 1) from tent 0", 7, 0, () -> hire.heat(1, 1));
        Checks.fails("heat(2, 0)", IndexOutOfBoundsException.class, () -> hire.heat(2, 0));
        Checks.fails("heat(-1, 0)", IndexOutOfBoundsException.class, () -> hire.heat(-1, 0));
        Checks.fails("heat(0, 2)", IndexOutOfBoundsException.class, () -> hire.heat(0, 2));
        Checks.fails("heat(0, -1)", IndexOutOfBoundsException.class, () -> hire.heat(0, -1));
    }

    private static void cold() {
        TubHire hire = new TubHire();
        hire.heater();
        hire.heater();
        hire.tent(0);
        hire.tent(0);
        hire.heat(0, 1);
        Checks.due("cold(0)", hire.cold(0), 1);
        Checks.due("its tent", hire.heaterOf(0, false), -1);
        Checks.due("the heater of the tent", hire.tentOf(1, 2), -1);
        Checks.refused(hire, "cold(0) again", 9, 0, () -> hire.cold(0));
        Checks.refused(hire, "cold(1)", 9, 1, () -> hire.cold(1));
        Checks.fails("cold(2)", IndexOutOfBoundsException.class, () -> hire.cold(2));
        Checks.fails("cold(-1)", IndexOutOfBoundsException.class, () -> hire.cold(-1));
    }

    private static void gas() {
        TubHire hire = new TubHire();
        hire.heater();
        Checks.fails("gas(0, 0)", IllegalArgumentException.class, () -> hire.gas(0, 0));
        Checks.fails("gas(0, 13)", IllegalArgumentException.class, () -> hire.gas(0, 13));
        Checks.fails("gas(1, 0)", IndexOutOfBoundsException.class, () -> hire.gas(1, 0));
        Checks.fails("gas(-1, 1)", IndexOutOfBoundsException.class, () -> hire.gas(-1, 1));
        Checks.refused(hire, "gas(0, 12) with 10 coins", 12, 2, () -> hire.gas(0, 12));
        Checks.due("gas(0, 1)", hire.gas(0, 1), 25);
        Checks.due("gas(0, 6)", hire.gas(0, 6), 55);
        Checks.due("gas(0, 2)", hire.gas(0, 2), 60);
        Checks.due("the coins", hire.number(13), 1);
        Checks.due("gas(0, 1) that is lost", hire.gas(0, 1), 60);
        Checks.due("the coins after the lost gas", hire.number(13), 0);
        Checks.refused(hire, "gas(0, 1) without coins", 12, 1, () -> hire.gas(0, 1));
        TubHire rich = Checks.withTubOut(1, 0);
        rich.heater();
        Checks.due("gas(0, 12)", rich.gas(0, 12), 60);
        Checks.due("the coins after the most gas", rich.number(13), 0);
    }
}
