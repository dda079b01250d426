import java.util.NoSuchElementException;

/** Promises 19 to 24: towels, soap and hours. */
public final class HoursTest {
    public static void main(String[] args) {
        wash();
        washWithoutCoins();
        soap();
        mostSoap();
        passOutOfRange();
        fillsHeatsAndCools();
        leaks();
        drains();
        emptyByTornSeams();
        bathes();
        tearsAfterBaths();
        tentsByNumbers();
        heatsIn();
        bathesIn();
        bathesInUpTo60();
        Checks.end();
    }

    private static void wash() {
        TubHire hire = Checks.withWarmTub(9);
        Checks.refused(hire, "wash(1) without used towels", 13, 0, () -> hire.wash(1));
        Checks.fails("wash(0)", IllegalArgumentException.class, () -> hire.wash(0));
        Checks.fails("wash(21)", IllegalArgumentException.class, () -> hire.wash(21));
        hire.join(0);
        hire.pass(1);
        Checks.due("the used towels", hire.number(8), 1);
        Checks.due("wash(20) of one towel", hire.wash(20), 1);
        Checks.due("the used towels then", hire.number(8), 0);
        Checks.due("the clean towels then", hire.number(7), 12);
        Checks.due("the coins then", hire.number(13), 12 + 4 - 1);
        Checks.refused(hire, "wash(20) again", 13, 0, () -> hire.wash(20));
    }

    private static void washWithoutCoins() {
        TubHire hire = Checks.withWarmTub(9);
        for (int i = 0; i < 3; i++) {
            hire.join(0);
        }
        hire.pass(24);
        Checks.due("the used towels after three baths", hire.number(8), 3);
        Checks.due("the coins after three baths", hire.number(13), 24);
        hire.soap(20);
        hire.soap(2);
        Checks.refused(hire, "wash(20) of 3 towels with 2 coins", 12, 1, () -> hire.wash(20));
        Checks.refused(hire, "wash(3) with 2 coins", 12, 1, () -> hire.wash(3));
        Checks.due("wash(2) with 2 coins", hire.wash(2), 2);
        Checks.refused(hire, "wash(5) of 1 towel without coins", 12, 1, () -> hire.wash(5));
        Checks.due("the clean towels", hire.number(7), 11);
        Checks.due("the used towels", hire.number(8), 1);
    }

    private static void soap() {
        TubHire hire = new TubHire();
        Checks.fails("soap(0)", IllegalArgumentException.class, () -> hire.soap(0));
        Checks.fails("soap(21)", IllegalArgumentException.class, () -> hire.soap(21));
        Checks.refused(hire, "soap(20) with 10 coins", 12, 10, () -> hire.soap(20));
        Checks.due("soap(4)", hire.soap(4), 14);
        Checks.due("the coins", hire.number(13), 6);
        Checks.refused(hire, "soap(7) with 6 coins", 12, 1, () -> hire.soap(7));
        Checks.due("soap(6)", hire.soap(6), 20);
        Checks.due("the coins then", hire.number(13), 0);
    }

    private static void mostSoap() {
        TubHire hire = Checks.withTubOut(3, 0);
        for (int i = 0; i < 14; i++) {
            hire.back(0);
            hire.out(0, 0);
        }
        Checks.due("the coins", hire.number(13), 100);
        for (int i = 1; i <= 4; i++) {
            Checks.due("soap(20)", hire.soap(20), 10 + 20 * i);
        }
        Checks.due("soap(20) of which 9 are bought", hire.soap(20), 99);
        Checks.due("the coins then", hire.number(13), 11);
        Checks.due("soap(20) of which none is bought", hire.soap(20), 99);
        Checks.due("the coins after none", hire.number(13), 11);
        hire.undo();
        hire.undo();
        hire.heater();
        hire.gas(0, 12);
        Checks.due("soap(20) of which 8 coins are enough", hire.number(13), 8);
        Checks.refused(hire, "soap(20) of which 9 would be bought for 8 coins", 12, 1, () -> hire.soap(20));
        Checks.due("soap(8)", hire.soap(8), 98);
        Checks.refused(hire, "soap(20) of which 1 would be bought", 12, 1, () -> hire.soap(20));
    }

    private static void passOutOfRange() {
        TubHire hire = new TubHire();
        Checks.fails("pass(0)", IllegalArgumentException.class, () -> hire.pass(0));
        Checks.fails("pass(-1)", IllegalArgumentException.class, () -> hire.pass(-1));
        Checks.fails("pass(49)", IllegalArgumentException.class, () -> hire.pass(49));
        Checks.due("the hour", hire.number(0), 0);
        Checks.due("pass(48)", hire.pass(48), 0);
        Checks.due("pass(1)", hire.pass(1), 0);
        Checks.due("the hour then", hire.number(0), 49);
    }

    /** Lets an hour go by, and tells what is due of tub 0 then. */
    private static void dueInHour(TubHire hire, int litres, int warmth, int gas) {
        hire.pass(1);
        String when = "hour " + hire.number(0) + ", ";
        Checks.due(when + "the litres", hire.tubOf(0, 3), litres);
        Checks.due(when + "the warmth", hire.tubOf(0, 4), warmth);
        if (gas >= 0) {
            Checks.due(when + "the gas", hire.heaterOf(0, true), gas);
        }
    }

    private static void fillsHeatsAndCools() {
        for (int size = 1; size <= 3; size++) {
            TubHire hire = Checks.withTubOut(size, 0);
            dueInHour(hire, 100 * size, 10, -1);
            dueInHour(hire, 100 * size, 10, -1);
            hire.heater();
            hire.heat(0, 0);
            int gas = 20;
            int warmth = 10;
            while (warmth < 60) {
                warmth = Math.min(60, warmth + 12 / size);
                gas--;
                dueInHour(hire, 100 * size, warmth, gas);
            }
            dueInHour(hire, 100 * size, 59, gas);
            dueInHour(hire, 100 * size, 60, gas - 1);
            hire.cold(0);
            dueInHour(hire, 100 * size, 59, gas - 1);
            dueInHour(hire, 100 * size, 58, gas - 1);
            hire.heat(0, 0);
            hire.pass(48);
            Checks.due("the gas after 48 hours", hire.heaterOf(0, true), 0);
            int cooler = hire.tubOf(0, 4) - 1;
            dueInHour(hire, 100 * size, cooler, 0);
            hire.pass(48);
            dueInHour(hire, 100 * size, 10, 0);
        }
    }

    private static void leaks() {
        TubHire hire = Checks.withWarmTub(0);
        hire.join(0);
        hire.tear(0, 1);
        dueInHour(hire, 100, 41, 17);
        hire.tear(0, 2);
        dueInHour(hire, 100, 36, 17);
        Checks.due("who waits as the tub is filled", hire.tentOf(0, 3), 1);
        hire.pass(4);
        dueInHour(hire, 100, 11, 17);
        dueInHour(hire, 100, 10, 17);
        dueInHour(hire, 100, 10, 17);
    }

    private static void drains() {
        TubHire hire = Checks.withWarmTub(3);
        hire.join(0);
        dueInHour(hire, 100, 46, 17);
        Checks.due("whether the water is dirty", hire.tubOf(0, 5), 1);
        dueInHour(hire, 50, 46, 17);
        Checks.due("whether the rest is dirty", hire.tubOf(0, 5), 1);
        dueInHour(hire, 0, 0, 17);
        Checks.due("whether no water is dirty", hire.tubOf(0, 5), 0);
        dueInHour(hire, 100, 10, 17);
        TubHire steep = Checks.withWarmTub(9);
        steep.join(0);
        dueInHour(steep, 100, 46, 17);
        dueInHour(steep, 0, 0, 17);
        TubHire flat = Checks.withWarmTub(0);
        flat.join(0);
        dueInHour(flat, 100, 46, 17);
        flat.tear(0, 0);
        flat.tear(0, 5);
        dueInHour(flat, 70, 46, 17);
        dueInHour(flat, 40, 46, 17);
        dueInHour(flat, 10, 46, 17);
        dueInHour(flat, 0, 0, 17);
    }

    /** A dirty tub that is empty by its torn seams is not dirty any more, and is filled in the next hour. */
    private static void emptyByTornSeams() {
        TubHire hire = Checks.withWarmTub(0);
        hire.join(0);
        hire.pass(3);
        Checks.due("the litres", hire.tubOf(0, 3), 60);
        for (int seam = 2; seam < 6; seam++) {
            hire.tear(0, seam);
        }
        dueInHour(hire, 20, 46, 17);
        dueInHour(hire, 0, 0, 17);
        Checks.due("whether the empty tub is dirty", hire.tubOf(0, 5), 0);
        dueInHour(hire, 100, 10, 17);
    }

    private static void bathes() {
        TubHire hire = Checks.withTubOut(1, 0);
        hire.tent(0);
        hire.heater();
        hire.heat(0, 0);
        hire.join(0);
        hire.join(0);
        Checks.due("pass(3)", hire.pass(3), 0);
        hire.cold(0);
        hire.heat(0, 1);
        Checks.due("the warmth before", hire.tubOf(0, 4), 34);
        hire.cold(0);
        hire.heat(0, 0);
        Checks.due("pass(2)", hire.pass(2), 1);
        Checks.due("the warmth of the bath", hire.tubOf(0, 4), 46);
        Checks.due("the soap", hire.number(12), 9);
        Checks.due("the coins of a bath of 46 degrees", hire.number(13), 12 + 4);
        Checks.due("the used towels", hire.number(8), 1);
        Checks.due("who bathed", hire.number(11), 1);
        Checks.due("who bathed in the tent", hire.tentOf(0, 4), 1);
        Checks.due("the baths of the tub", hire.tubOf(0, 6), 1);
        cheapBaths();
        withoutSoap();
    }

    /** Water of 44 degrees brings 3 coins, and of 45 degrees 4; water of 37 degrees is no bath, and of 38 one. */
    private static void cheapBaths() {
        int[] waited = {1, 2, 8, 9};
        int[] coins = {4, 3, 3, 0};
        for (int i = 0; i < waited.length; i++) {
            TubHire hire = Checks.withWarmTub(0);
            hire.cold(0);
            hire.pass(waited[i]);
            hire.join(0);
            int before = hire.number(13);
            Checks.due("pass(1) after " + waited[i], hire.pass(1), coins[i] == 0 ? 0 : 1);
            Checks.due("the coins of the bath", hire.number(13) - before, coins[i]);
        }
    }

    private static void withoutSoap() {
        TubHire hire = Checks.withTubOut(1, 0);
        hire.heater();
        hire.heat(0, 0);
        Checks.takeBaths(hire, 0, 10);
        Checks.due("who bathed with 10 slices", hire.number(11), 10);
        Checks.due("the soap", hire.number(12), 0);
        hire.back(0);
        hire.out(0, 0);
        hire.join(0);
        Checks.due("pass(48) without soap", hire.pass(48), 0);
        hire.soap(1);
        hire.gas(0, 9);
        Checks.due("pass(7) with a slice", hire.pass(7), 1);
        Checks.due("the soap then", hire.number(12), 0);
    }

    private static void tearsAfterBaths() {
        TubHire hire = new TubHire();
        for (int i = 0; i < 3; i++) {
            hire.tub(1);
        }
        hire.tent(0);
        hire.heater();
        hire.heat(0, 0);
        hire.out(2, 0);
        Checks.takeBaths(hire, 2, 3);
        Checks.due("the seams after 3 baths", hire.tubOf(2, 2), 0);
        Checks.takeBaths(hire, 2, 1);
        Checks.due("the seams after 4 baths", hire.tubOf(2, 2), 1 << 2 + 4);
        Checks.takeBaths(hire, 2, 3);
        Checks.due("the seams after 7 baths", hire.tubOf(2, 2), 0);
        Checks.takeBaths(hire, 2, 1);
        Checks.due("the seams after 8 baths", hire.tubOf(2, 2), 1 << 2 + 8 - 8);
        Checks.due("the baths", hire.tubOf(2, 6), 8);
    }

    /** The last slice is for the tent with the lower number, though its tub and its heater have the higher ones. */
    private static void tentsByNumbers() {
        TubHire hire = new TubHire();
        for (int i = 0; i < 2; i++) {
            hire.tub(1);
            hire.tent(0);
            hire.heater();
        }
        hire.out(1, 0);
        hire.heat(1, 0);
        hire.heat(0, 1);
        Checks.takeBaths(hire, 1, 9);
        hire.back(1);
        hire.out(1, 0);
        hire.out(0, 1);
        hire.join(1);
        hire.join(0);
        Checks.due("the soap", hire.number(12), 1);
        Checks.due("pass(5) with one slice", hire.pass(5), 1);
        Checks.due("the baths in tent 0", hire.tentOf(0, 4), 10);
        Checks.due("the baths in tent 1", hire.tentOf(1, 4), 0);
        Checks.due("who waits in tent 1", hire.waiting(1, 0), 9);
    }

    private static void heatsIn() {
        TubHire hire = new TubHire();
        int[] degrees = {0, 12, 6, 4};
        for (int size = 1; size <= 3; size++) {
            for (int warmth = 10; warmth <= 60; warmth++) {
                int hours = 0;
                while (warmth + hours * degrees[size] < 38) {
                    hours++;
                }
                Checks.due("heatsIn(" + size + ", " + warmth + ")", hire.heatsIn(size, warmth), hours);
                Checks.due("heatsAgain(" + size + ", " + warmth + ")", hire.heatsAgain(size, warmth), hours);
            }
        }
        int[][] wrong = {{0, 20}, {4, 20}, {-1, 40}, {1, 9}, {1, 61}, {3, Integer.MIN_VALUE}, {2, Integer.MAX_VALUE}};
        for (int[] w : wrong) {
            String of = "(" + w[0] + ", " + w[1] + ")";
            Checks.fails("heatsIn" + of, IllegalArgumentException.class, () -> hire.heatsIn(w[0], w[1]));
            Checks.fails("heatsAgain" + of, IllegalArgumentException.class, () -> hire.heatsAgain(w[0], w[1]));
        }
    }

    private static void bathesIn() {
        TubHire hire = Checks.withTubOut(1, 9);
        hire.heater();
        hire.heat(0, 0);
        Checks.fails("bathesIn(0) of nobody", NoSuchElementException.class, () -> hire.bathesIn(0));
        Checks.fails("bathesIn(-1)", NoSuchElementException.class, () -> hire.bathesIn(-1));
        hire.join(0);
        hire.join(0);
        Checks.due("bathesIn(0)", hire.bathesIn(0), 5);
        Checks.due("bathesIn(1)", hire.bathesIn(1), 11);
        Checks.due("the hour after that", hire.number(0), 0);
        Checks.due("the litres after that", hire.number(14), 0);
        Checks.fails("bathesIn(2)", NoSuchElementException.class, () -> hire.bathesIn(2));
        hire.pass(4);
        Checks.due("bathesIn(0) with warm water", hire.bathesIn(0), 1);
        Checks.due("pass(1)", hire.pass(1), 1);
        Checks.fails("bathesIn(0) after the bath", NoSuchElementException.class, () -> hire.bathesIn(0));
        Checks.due("bathesIn(1) after a bath", hire.bathesIn(1), 6);
        hire.cold(0);
        Checks.fails("bathesIn(1) without a heater", NoSuchElementException.class, () -> hire.bathesIn(1));
        hire.heat(0, 0);
        hire.back(0);
        Checks.fails("bathesIn(1) without a tub", NoSuchElementException.class, () -> hire.bathesIn(1));
        Checks.fails("a refusal after all that", NoSuchElementException.class, () -> hire.refusal(true));
    }

    /** On flat ground, a tub of size 3 is filled in 1 hour, warm after 7, bathed in in 1, and empty after 15. */
    private static void bathesInUpTo60() {
        TubHire hire = Checks.withTubOut(3, 0);
        hire.heater();
        hire.heat(0, 0);
        hire.gas(0, 2);
        for (int i = 0; i < 4; i++) {
            hire.join(0);
        }
        Checks.due("bathesIn(0)", hire.bathesIn(0), 9);
        Checks.due("bathesIn(1)", hire.bathesIn(1), 9 + 24);
        Checks.due("bathesIn(2)", hire.bathesIn(2), 9 + 2 * 24);
        Checks.fails("bathesIn(3), after 81 hours", NoSuchElementException.class, () -> hire.bathesIn(3));
        hire.pass(20);
        Checks.fails("bathesIn(3), after 61 hours", NoSuchElementException.class, () -> hire.bathesIn(3));
        hire.pass(1);
        Checks.due("bathesIn(3), after 60 hours", hire.bathesIn(3), 60);
        Checks.due("pass(48)", hire.pass(48), 2);
        Checks.due("pass(11)", hire.pass(11), 0);
        Checks.due("pass(1)", hire.pass(1), 1);
    }
}
