import java.util.NoSuchElementException;

/** The sentences of "Terms" on water, on an hour that goes by, and on the details of both. */
final class WaterSentences {
    private WaterSentences() {
    }

    static void test(Sentences document) {
        document.holds(0, "A tub in a tent has water from 0 litres to 100 for each degree of its size,",
                WaterSentences::leastAndMostLitres);
        document.holds(0, "and the water has a warmth from 10 to 60 degrees.", WaterSentences::leastAndMostWarmth);
        document.holds(0, "A tub that goes out has no water.", WaterSentences::goesOutWithoutWater);
        document.holds(0, "First the hour, counted from 0, becomes 1 more.", WaterSentences::hourCounts);
        document.holds(0, "Then, for each tent with a tub, by numbers:", WaterSentences::tentsByNumbers);
        document.holds(0, "first the tub loses 5 litres for each torn seam,", WaterSentences::leaks);
        document.holds(0, "or all that there are. Then, if its water is dirty,", WaterSentences::leaksAll);
        document.holds(0, "it drains by 20 litres, and by 10 more for each degree of the slope,",
                WaterSentences::drains);
        document.holds(0, "or all that there are; at 0 litres it is not dirty any more.", WaterSentences::drainsAll);
        document.holds(0, "Otherwise, if it is not full, it is filled: it is full then,", WaterSentences::isFilled);
        document.holds(0, "and its warmth is 10 if there were no litres,", WaterSentences::isFilledFromNone);
        document.holds(0, "and otherwise that of before, less 5, but not below 10.", WaterSentences::isFilledColder);
        document.holds(0, "Otherwise, if the water has 38 degrees or more,", WaterSentences::bathWarmth);
        document.holds(0, "somebody waits,", WaterSentences::nobodyWaits);
        document.holds(0, "and there is soap,", WaterSentences::lastSlice);
        document.holds(0, "the first in the queue has a bath: this takes a slice, brings 3 coins,",
                WaterSentences::firstInQueue);
        document.holds(0, "and a coin more if the water has 45 degrees or more;", WaterSentences::dearWarmth);
        document.holds(0, "the towel is used then, and the water dirty;", WaterSentences::oneBathMakesDirty);
        document.holds(0, "and if the baths of the tub so far, this one included, are a multiple of 4,",
                WaterSentences::tearsAtMultiplesOf4);
        document.holds(0, "its seam tears whose number is what is left when the tub and its baths together are divided"
                + " by 8.", WaterSentences::tornSeamWrapsAround);
        document.holds(0, "Otherwise, if there is a heater with gas,", WaterSentences::lastGas);
        document.holds(0, "and the water has fewer than 60 degrees, it takes 1 of gas,",
                WaterSentences::heatsBelow60);
        document.holds(0, "and the water gets warmer by 12 degrees, divided by the size, but not more than 60;",
                WaterSentences::heatsUpTo60);
        document.holds(0, "and without that it gets cooler by 1 degree, but not below 10.", WaterSentences::coolsDownTo10);
        document.holds(0, "A dirty tub that is empty by its torn seams is not dirty any more, and is filled in the next"
                + " hour.", WaterSentences::emptyByTornSeams);
        document.holds(0, "Guests are numbered through all tents.", WaterSentences::guestsOfAllTents);
        document.holds(0, "Water of 60 degrees cools also where a heater has gas.", WaterSentences::coolsAt60);
        document.holds(0, "A tub in a tent can be mended as long as it has no water.", WaterSentences::mendsWithoutWater);
        document.holds(0, "Gas that is lost is paid.", WaterSentences::lostGasIsPaid);
    }

    /** Lets an hour go by, and tells what is due of tub 0 then. */
    private static void dueInHour(TubHire hire, int litres, int warmth, boolean isDirty) {
        hire.pass(1);
        String when = "hour " + hire.number(0) + ", ";
        Checks.due(when + "the litres", hire.tubOf(0, 3), litres);
        Checks.due(when + "the warmth", hire.tubOf(0, 4), warmth);
        Checks.due(when + "whether it is dirty", hire.tubOf(0, 5), isDirty ? 1 : 0);
    }

    private static void leastAndMostLitres() {
        for (int size = 1; size <= 3; size++) {
            TubHire hire = Checks.withTubOut(size, 9);
            Checks.due("the litres at first", hire.tubOf(0, 3), 0);
            hire.pass(1);
            Checks.due("the litres after an hour", hire.tubOf(0, 3), 100 * size);
            hire.pass(48);
            Checks.due("the litres after 49 hours", hire.tubOf(0, 3), 100 * size);
            TubHire dirty = Checks.withDirtyTub(size, 9);
            dirty.pass(size);
            Checks.due("the litres when all is drained", dirty.tubOf(0, 3), 0);
        }
    }

    private static void leastAndMostWarmth() {
        for (int size = 1; size <= 3; size++) {
            TubHire hire = Checks.withTubOut(size, 0);
            hire.pass(40);
            Checks.due("the warmth without a heater", hire.tubOf(0, 4), 10);
            hire.heater();
            hire.heat(0, 0);
            int most = 0;
            for (int hour = 0; hour < 18; hour++) {
                hire.pass(1);
                most = Math.max(most, hire.tubOf(0, 4));
            }
            Checks.due("the most warmth with a heater", most, 60);
            hire.cold(0);
            hire.pass(48);
            hire.pass(3);
            Checks.due("the warmth without a heater again", hire.tubOf(0, 4), 10);
        }
    }

    private static void goesOutWithoutWater() {
        TubHire hire = Checks.withWater(2, 40);
        hire.back(0);
        hire.out(0, 0);
        Checks.due("the litres of clean water", hire.tubOf(0, 3), 0);
        dueInHour(hire, 200, 10, false);
        TubHire dirty = Checks.withDirtyTub(1, 0);
        dirty.back(0);
        dirty.out(0, 0);
        Checks.due("the litres of dirty water", dirty.tubOf(0, 3), 0);
        Checks.due("whether it is dirty", dirty.tubOf(0, 5), 0);
        dueInHour(dirty, 100, 10, false);
    }

    private static void hourCounts() {
        TubHire hire = new TubHire();
        Checks.due("the hour at first", hire.number(0), 0);
        hire.pass(1);
        Checks.due("the hour after one", hire.number(0), 1);
        hire.pass(48);
        Checks.due("the hour after 49", hire.number(0), 49);
    }

    /** The last slice is for the tent with the lower number, though its tub and its heater have the higher ones. */
    private static void tentsByNumbers() {
        TubHire hire = Checks.withTubs(2);
        hire.tent(0);
        hire.out(1, 0);
        hire.heat(1, 0);
        hire.heat(0, 2);
        Checks.takeBaths(hire, 1, 9);
        hire.back(1);
        hire.out(0, 2);
        hire.out(1, 0);
        hire.join(2);
        hire.join(0);
        Checks.due("the soap", hire.number(12), 1);
        Checks.due("the baths with one slice", hire.pass(5), 1);
        Checks.due("who waits in tent 0", hire.tentOf(0, 3), 0);
        Checks.due("who waits in tent 1, without a tub", hire.tentOf(1, 3), 0);
        Checks.due("who waits in tent 2", hire.tentOf(2, 3), 1);
        TubHire bare = Checks.withTubs(1);
        bare.heat(0, 0);
        bare.pass(48);
        Checks.due("the gas in a tent without a tub", bare.heaterOf(0, true), 20);
        Checks.due("the litres in the store", bare.number(14), 0);
    }

    private static void leaks() {
        for (int seams = 0; seams <= 8; seams++) {
            TubHire hire = Checks.withDirtyTub(2, 0);
            for (int seam = 0; seam < seams; seam++) {
                hire.tear(0, 7 - seam);
            }
            dueInHour(hire, 200 - 5 * seams - 20, 40, true);
        }
        TubHire clean = Checks.withWater(1, 40);
        clean.tear(0, 0);
        dueInHour(clean, 100, 35, false);
    }

    private static void leaksAll() {
        int[] left = {20, 20};
        int[] seams = {4, 8};
        for (int i = 0; i < left.length; i++) {
            TubHire hire = Checks.withDirtyTub(1, 0);
            hire.pass(4);
            Checks.due("the litres before", hire.tubOf(0, 3), left[i]);
            for (int seam = 0; seam < seams[i]; seam++) {
                hire.tear(0, seam);
            }
            dueInHour(hire, 0, 0, false);
            Checks.due("the litres in all tubs", hire.number(14), 0);
        }
    }

    private static void drains() {
        for (int slope = 0; slope <= 9; slope++) {
            TubHire hire = Checks.withDirtyTub(3, slope);
            Checks.due("the litres of the bath", hire.tubOf(0, 3), 300);
            dueInHour(hire, 280 - 10 * slope, 38, true);
        }
    }

    private static void drainsAll() {
        TubHire flat = Checks.withDirtyTub(1, 0);
        dueInHour(flat, 80, 46, true);
        dueInHour(flat, 60, 46, true);
        dueInHour(flat, 40, 46, true);
        dueInHour(flat, 20, 46, true);
        dueInHour(flat, 0, 0, false);
        dueInHour(flat, 100, 10, false);
        TubHire over = Checks.withDirtyTub(1, 9);
        dueInHour(over, 0, 0, false);
        dueInHour(over, 100, 10, false);
        TubHire just = Checks.withDirtyTub(1, 8);
        dueInHour(just, 0, 0, false);
        TubHire under = Checks.withDirtyTub(1, 7);
        dueInHour(under, 10, 46, true);
        dueInHour(under, 0, 0, false);
    }

    private static void isFilled() {
        TubHire full = Checks.withWater(1, 40);
        dueInHour(full, 100, 39, false);
        TubHire hire = Checks.withWater(1, 44);
        hire.join(0);
        hire.heat(0, 0);
        int gas = hire.heaterOf(0, true);
        hire.tear(0, 3);
        dueInHour(hire, 100, 39, false);
        Checks.due("who waits as it is filled", hire.tentOf(0, 3), 1);
        Checks.due("the gas as it is filled", hire.heaterOf(0, true), gas);
    }

    private static void isFilledFromNone() {
        TubHire hire = Checks.withTubOut(3, 0);
        dueInHour(hire, 300, 10, false);
        TubHire drained = Checks.withDirtyTub(1, 9);
        Checks.due("the warmth of the bath", drained.tubOf(0, 4), 46);
        dueInHour(drained, 0, 0, false);
        dueInHour(drained, 100, 10, false);
        TubHire leaked = Checks.withWater(1, 10);
        leaked.back(0);
        leaked.out(0, 0);
        for (int seam = 0; seam < 8; seam++) {
            leaked.tear(0, seam);
        }
        dueInHour(leaked, 100, 10, false);
    }

    private static void isFilledColder() {
        int[] before = {60, 17, 16, 15, 14, 11, 10};
        int[] after = {55, 12, 11, 10, 10, 10, 10};
        for (int i = 0; i < before.length; i++) {
            TubHire hire = Checks.withWater(1, before[i]);
            Checks.due("the warmth before", hire.tubOf(0, 4), before[i]);
            hire.tear(0, 0);
            dueInHour(hire, 100, after[i], false);
        }
    }

    private static void bathWarmth() {
        int[] warmth = {37, 38, 39, 60};
        int[] baths = {0, 1, 1, 1};
        for (int i = 0; i < warmth.length; i++) {
            TubHire hire = Checks.withWater(1, warmth[i]);
            hire.join(0);
            Checks.due("the baths at " + warmth[i], hire.pass(1), baths[i]);
            Checks.due("the warmth after it", hire.tubOf(0, 4), baths[i] == 1 ? warmth[i] : warmth[i] - 1);
        }
    }

    private static void nobodyWaits() {
        TubHire hire = Checks.withWater(1, 50);
        Checks.due("the baths of nobody", hire.pass(1), 0);
        Checks.due("the soap then", hire.number(12), 10);
        Checks.due("the warmth then", hire.tubOf(0, 4), 49);
        hire.join(0);
        Checks.due("the baths of one guest", hire.pass(1), 1);
        Checks.due("who waits then", hire.number(9), 0);
    }

    private static void lastSlice() {
        TubHire hire = Checks.withTubOut(1, 0);
        hire.heater();
        hire.heat(0, 0);
        Checks.takeBaths(hire, 0, 9);
        Checks.due("the soap before", hire.number(12), 1);
        Checks.takeBaths(hire, 0, 1);
        Checks.due("the soap after the last slice", hire.number(12), 0);
        hire.back(0);
        hire.out(0, 0);
        hire.gas(0, 1);
        hire.join(0);
        Checks.due("the baths without soap", hire.pass(5), 0);
        Checks.due("the warmth without soap", hire.tubOf(0, 4), 58);
        hire.soap(1);
        Checks.due("the baths with a slice", hire.pass(1), 1);
    }

    private static void firstInQueue() {
        TubHire hire = Checks.withWater(1, 40);
        hire.join(0);
        hire.join(0);
        hire.join(0);
        int coins = hire.number(13);
        Checks.due("the baths", hire.pass(1), 1);
        Checks.due("who waits first", hire.waiting(0, 0), 1);
        Checks.due("who waits second", hire.waiting(0, 1), 2);
        Checks.fails("who waits third", NoSuchElementException.class, () -> hire.waiting(0, 2));
        Checks.due("the soap", hire.number(12), 9);
        Checks.due("the coins", hire.number(13), coins + 3);
    }

    private static void dearWarmth() {
        int[] warmth = {38, 44, 45, 46, 60};
        int[] coins = {3, 3, 4, 4, 4};
        for (int i = 0; i < warmth.length; i++) {
            TubHire hire = Checks.withWater(2, warmth[i]);
            hire.join(0);
            int before = hire.number(13);
            hire.pass(1);
            Checks.due("the coins at " + warmth[i], hire.number(13) - before, coins[i]);
        }
    }

    private static void oneBathMakesDirty() {
        TubHire hire = Checks.withWater(1, 40);
        hire.join(0);
        Checks.due("the clean towels before", hire.number(7), 11);
        Checks.due("the used towels before", hire.number(8), 0);
        dueInHour(hire, 100, 40, true);
        Checks.due("the clean towels after", hire.number(7), 11);
        Checks.due("the used towels after", hire.number(8), 1);
    }

    /** Takes baths in tub 0 of size 1 until it had 9 of them. */
    private static void tearsAtMultiplesOf4() {
        TubHire hire = Checks.withTubOut(1, 0);
        hire.heater();
        hire.heat(0, 0);
        int[] seams = {0, 0, 0, 1 << 4, 0, 0, 0, 1, 0};
        for (int baths = 1; baths <= 9; baths++) {
            Checks.takeBaths(hire, 0, 1);
            Checks.due("the baths", hire.tubOf(0, 6), baths);
            Checks.due("the seams after bath " + baths, hire.tubOf(0, 2), seams[baths - 1]);
        }
    }

    private static void tornSeamWrapsAround() {
        for (int tub = 0; tub < 8; tub++) {
            TubHire hire = new TubHire();
            for (int i = 0; i <= tub; i++) {
                hire.tub(1);
            }
            hire.tent(9);
            hire.heater();
            hire.heat(0, 0);
            hire.out(tub, 0);
            Checks.takeBaths(hire, tub, 4);
            Checks.due("the seams of tub " + tub + " after 4 baths", hire.tubOf(tub, 2), 1 << (tub + 4) % 8);
            Checks.takeBaths(hire, tub, 4);
            Checks.due("the seams of tub " + tub + " after 8 baths", hire.tubOf(tub, 2), 1 << tub);
        }
    }

    private static void lastGas() {
        TubHire hire = Checks.withTubOut(1, 0);
        hire.heater();
        hire.heat(0, 0);
        hire.pass(35);
        Checks.due("the gas before", hire.heaterOf(0, true), 1);
        Checks.due("the warmth before", hire.tubOf(0, 4), 59);
        dueInHour(hire, 100, 60, false);
        Checks.due("the gas then", hire.heaterOf(0, true), 0);
        dueInHour(hire, 100, 59, false);
        dueInHour(hire, 100, 58, false);
        Checks.due("the gas after that", hire.heaterOf(0, true), 0);
        hire.cold(0);
        dueInHour(hire, 100, 57, false);
        hire.gas(0, 1);
        dueInHour(hire, 100, 56, false);
        Checks.due("the gas of the heater in the store", hire.heaterOf(0, true), 5);
    }

    private static void heatsBelow60() {
        TubHire hire = Checks.withWater(1, 60);
        hire.heat(0, 0);
        int gas = hire.heaterOf(0, true);
        hire.pass(1);
        Checks.due("the gas after an hour at 60", hire.heaterOf(0, true), gas);
        hire.pass(1);
        Checks.due("the gas after an hour at 59", hire.heaterOf(0, true), gas - 1);
        Checks.due("the warmth then", hire.tubOf(0, 4), 60);
    }

    private static void heatsUpTo60() {
        for (int size = 1; size <= 3; size++) {
            int step = 12 / size;
            for (int warmth : new int[] {10, 59 - step, 60 - step, 61 - step, 59}) {
                TubHire hire = Checks.withWater(size, warmth);
                hire.heat(0, 0);
                dueInHour(hire, 100 * size, Math.min(60, warmth + step), false);
            }
        }
    }

    private static void coolsDownTo10() {
        for (int size = 1; size <= 3; size++) {
            TubHire hire = Checks.withWater(size, 12);
            dueInHour(hire, 100 * size, 11, false);
            dueInHour(hire, 100 * size, 10, false);
            dueInHour(hire, 100 * size, 10, false);
        }
    }

    private static void emptyByTornSeams() {
        TubHire hire = Checks.withDirtyTub(1, 0);
        for (int seam = 0; seam < 8; seam++) {
            hire.tear(0, seam);
        }
        dueInHour(hire, 40, 46, true);
        dueInHour(hire, 0, 0, false);
        Checks.due("the line of the empty tub", Checks.line(hire, 0), "0: 0 0l h17");
        dueInHour(hire, 100, 10, false);
    }

    private static void guestsOfAllTents() {
        TubHire hire = Checks.withTubs(3);
        for (int i = 0; i < 3; i++) {
            hire.out(i, i);
        }
        for (int guest = 0; guest < 9; guest++) {
            Checks.due("guest " + guest, hire.join((guest + 2) % 3), guest);
        }
        Checks.due("the first in tent 2", hire.waiting(2, 0), 0);
        Checks.due("the last in tent 1", hire.waiting(1, 2), 8);
    }

    private static void coolsAt60() {
        for (int size = 1; size <= 3; size++) {
            TubHire hire = Checks.withWater(size, 60);
            hire.heat(0, 0);
            Checks.due("whether the heater has gas", hire.heaterOf(0, true) > 0, true);
            dueInHour(hire, 100 * size, 59, false);
            dueInHour(hire, 100 * size, 60, false);
            dueInHour(hire, 100 * size, 59, false);
        }
    }

    private static void mendsWithoutWater() {
        TubHire hire = Checks.withTubOut(1, 0);
        hire.tear(0, 2);
        hire.tear(0, 3);
        Checks.due("mend(0, 2) in a tent, without water", hire.mend(0, 2), 1);
        hire.pass(1);
        Checks.refused(hire, "mend(0, 3) in a tent, with water", 14, 100, () -> hire.mend(0, 3));
        TubHire drained = Checks.withDirtyTub(1, 7);
        drained.tear(0, 5);
        drained.pass(1);
        Checks.refused(drained, "mend(0, 5) with the last litres", 14, 5, () -> drained.mend(0, 5));
        drained.pass(1);
        Checks.due("mend(0, 5) when all is drained", drained.mend(0, 5), 0);
        Checks.due("its tent", drained.tubOf(0, 1), 0);
    }

    private static void lostGasIsPaid() {
        TubHire hire = new TubHire();
        hire.heater();
        Checks.due("gas(0, 9), of which 5 are lost", hire.gas(0, 9), 60);
        Checks.due("the coins", hire.number(13), 1);
        Checks.due("gas(0, 1), of which all are lost", hire.gas(0, 1), 60);
        Checks.due("the coins then", hire.number(13), 0);
        Checks.refused(hire, "gas(0, 1) without coins, of which all would be lost", 12, 1, () -> hire.gas(0, 1));
    }
}
