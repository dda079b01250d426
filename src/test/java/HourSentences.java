import java.util.NoSuchElementException;

/** The sentences of promises 19 to 24 that name a boundary case. */
final class HourSentences {
    private HourSentences() {
    }

    static void test(Sentences document) {
        document.holds(19, "many: how many at most, from 1 to 20", HourSentences::washesAtMost);
        document.holds(19, "Throws IllegalArgumentException if the number is out of range",
                HourSentences::washOutOfRange);
        document.holds(19, "Throws UnsupportedOperationException if it is refused, for the reason 13 or 12, by those"
                + " that would be washed", HourSentences::refusedWash);
        document.holds(20, "those by which there would be more than 99 are not bought.", HourSentences::soapUpTo99);
        document.holds(20, "many: how many, from 1 to 20", HourSentences::slices);
        document.holds(20, "Throws IllegalArgumentException if the number is out of range",
                HourSentences::soapOutOfRange);
        document.holds(20, "Throws UnsupportedOperationException if it is refused, for the reason 12, by what would be"
                + " bought", HourSentences::refusedSoap);
        document.holds(21, "hours: how many, from 1 to 48", HourSentences::leastAndMostHours);
        document.holds(21, "Returns how many guests bathe in them.", HourSentences::bathsInHours);
        document.holds(21, "Throws IllegalArgumentException if the number is out of range",
                HourSentences::hoursOutOfRange);
        document.holds(22, "water of some warmth in a tub of a size has 38 degrees or more: hour by hour.",
                HourSentences::heatsUpTo38);
        document.holds(22, "warmth: the warmth, from 10 to 60", HourSentences::heatsInOfEachWarmth);
        document.holds(22, "Returns the number of hours, 0 if it has now.", HourSentences::isWarmNow);
        document.holds(22, "Throws IllegalArgumentException if a number is out of range",
                HourSentences::heatsInOutOfRange);
        document.holds(23, "Returns the same by a second way: from the degrees that are missing.",
                HourSentences::heatsAgainTheSame);
        document.holds(23, "warmth: the warmth, from 10 to 60", HourSentences::heatsAgainOfEachWarmth);
        document.holds(23, "Throws IllegalArgumentException if a number is out of range",
                HourSentences::heatsAgainOutOfRange);
        document.holds(24, "Returns in how many hours a guest bathes who waits, if only hours go by.",
                HourSentences::onlyHoursGoBy);
        document.holds(24, "Throws NoSuchElementException if no such guest waits,", HourSentences::guestWhoDoesNotWait);
        document.holds(24, "or does not bathe within 60 hours", HourSentences::within60Hours);
    }

    /** A hirer with 3 used towels, 9 clean ones and 24 coins. */
    private static TubHire withUsedTowels() {
        TubHire hire = Checks.withWarmTub(9);
        for (int i = 0; i < 3; i++) {
            hire.join(0);
        }
        hire.pass(24);
        Checks.due("the used towels", hire.number(8), 3);
        Checks.due("the coins", hire.number(13), 24);
        return hire;
    }

    private static void washesAtMost() {
        for (int many : new int[] {1, 2, 3, 4, 20}) {
            TubHire hire = withUsedTowels();
            int washed = Math.min(3, many);
            Checks.due("wash(" + many + ")", hire.wash(many), washed);
            Checks.due("the used towels then", hire.number(8), 3 - washed);
            Checks.due("the clean towels then", hire.number(7), 9 + washed);
            Checks.due("the coins then", hire.number(13), 24 - washed);
        }
    }

    private static void washOutOfRange() {
        TubHire hire = withUsedTowels();
        for (int many : new int[] {0, 21, -1, Integer.MIN_VALUE, Integer.MAX_VALUE}) {
            Checks.fails("wash(" + many + ")", IllegalArgumentException.class, () -> hire.wash(many));
        }
        Checks.due("the used towels then", hire.number(8), 3);
    }

    private static void refusedWash() {
        TubHire hire = withUsedTowels();
        hire.soap(20);
        hire.soap(2);
        Checks.refused(hire, "wash(20) of 3 with 2 coins", 12, 1, () -> hire.wash(20));
        Checks.refused(hire, "wash(3) of 3 with 2 coins", 12, 1, () -> hire.wash(3));
        Checks.due("wash(2) of 3 with 2 coins", hire.wash(2), 2);
        Checks.refused(hire, "wash(20) of 1 without coins", 12, 1, () -> hire.wash(20));
        TubHire clean = new TubHire();
        Checks.refused(clean, "wash(20) of none", 13, 0, () -> clean.wash(20));
        TubHire enough = withUsedTowels();
        enough.soap(20);
        enough.soap(1);
        Checks.due("wash(20) of 3 with 3 coins", enough.wash(20), 3);
        Checks.due("the coins then", enough.number(13), 0);
    }

    /** A hirer with 90 slices of soap and some coins. */
    private static TubHire withSoap(int coins) {
        TubHire hire = ThingsSentences.rich(80 + coins);
        for (int i = 0; i < 4; i++) {
            hire.soap(20);
        }
        return hire;
    }

    private static void soapUpTo99() {
        for (int many : new int[] {8, 9, 10, 20}) {
            TubHire hire = withSoap(20);
            int bought = Math.min(9, many);
            Checks.due("soap(" + many + ") at 90", hire.soap(many), 90 + bought);
            Checks.due("the coins then", hire.number(13), 20 - bought);
            Checks.due("soap(20) at " + (90 + bought), hire.soap(20), 99);
            Checks.due("soap(1) at 99", hire.soap(1), 99);
            Checks.due("the coins at 99", hire.number(13), 11);
        }
    }

    private static void slices() {
        TubHire hire = ThingsSentences.rich(40);
        Checks.due("soap(1)", hire.soap(1), 11);
        Checks.due("soap(20)", hire.soap(20), 31);
        Checks.due("the coins", hire.number(13), 19);
    }

    private static void soapOutOfRange() {
        TubHire hire = ThingsSentences.rich(40);
        for (int many : new int[] {0, 21, -1, Integer.MIN_VALUE, Integer.MAX_VALUE}) {
            Checks.fails("soap(" + many + ")", IllegalArgumentException.class, () -> hire.soap(many));
        }
        Checks.due("the soap", hire.number(12), 10);
        Checks.due("the coins", hire.number(13), 40);
    }

    private static void refusedSoap() {
        TubHire hire = new TubHire();
        Checks.refused(hire, "soap(11) with 10 coins", 12, 1, () -> hire.soap(11));
        Checks.due("soap(10) with 10 coins", hire.soap(10), 20);
        Checks.refused(hire, "soap(1) without coins", 12, 1, () -> hire.soap(1));
        TubHire few = withSoap(8);
        Checks.refused(few, "soap(20) of 9 with 8 coins", 12, 1, () -> few.soap(20));
        Checks.refused(few, "soap(9) of 9 with 8 coins", 12, 1, () -> few.soap(9));
        Checks.due("soap(8) with 8 coins", few.soap(8), 98);
        Checks.refused(few, "soap(20) of 1 without coins", 12, 1, () -> few.soap(20));
        TubHire enough = withSoap(9);
        Checks.due("soap(20) of 9 with 9 coins", enough.soap(20), 99);
        Checks.due("soap(20) of none without coins", enough.soap(20), 99);
        Checks.due("the coins", enough.number(13), 0);
    }

    private static void leastAndMostHours() {
        TubHire hire = Checks.withTubOut(1, 0);
        Checks.due("pass(1)", hire.pass(1), 0);
        Checks.due("the hour", hire.number(0), 1);
        Checks.due("the litres", hire.tubOf(0, 3), 100);
        Checks.due("pass(48)", hire.pass(48), 0);
        Checks.due("the hour then", hire.number(0), 49);
        TubHire empty = new TubHire();
        Checks.due("pass(48) without tents", empty.pass(48), 0);
        Checks.due("the hour without tents", empty.number(0), 48);
    }

    private static void bathsInHours() {
        TubHire hire = Checks.withTubs(2);
        for (int i = 0; i < 2; i++) {
            hire.out(i, i);
            hire.heat(i, i);
            hire.join(i);
            hire.join(i);
        }
        Checks.due("pass(4), too early", hire.pass(4), 0);
        Checks.due("pass(1), in which both bathe", hire.pass(1), 2);
        Checks.due("pass(1), in which both are drained", hire.pass(1), 0);
        Checks.due("pass(48), in which the others bathe", hire.pass(48), 2);
        Checks.due("pass(48), in which nobody waits", hire.pass(48), 0);
    }

    private static void hoursOutOfRange() {
        TubHire hire = new TubHire();
        for (int hours : new int[] {0, 49, -1, Integer.MIN_VALUE, Integer.MAX_VALUE}) {
            Checks.fails("pass(" + hours + ")", IllegalArgumentException.class, () -> hire.pass(hours));
        }
        Checks.due("the hour", hire.number(0), 0);
    }

    private static void heatsUpTo38() {
        TubHire hire = new TubHire();
        int[] sizes = {1, 1, 1, 1, 2, 2, 2, 2, 3, 3, 3, 3};
        int[] warmth = {37, 26, 25, 13, 37, 32, 31, 25, 37, 34, 33, 29};
        int[] hours = {1, 1, 2, 3, 1, 1, 2, 3, 1, 1, 2, 3};
        for (int i = 0; i < sizes.length; i++) {
            Checks.due("heatsIn(" + sizes[i] + ", " + warmth[i] + ")", hire.heatsIn(sizes[i], warmth[i]), hours[i]);
        }
    }

    private static void heatsInOfEachWarmth() {
        TubHire hire = new TubHire();
        int[] most = {0, 3, 5, 7};
        for (int size = 1; size <= 3; size++) {
            Checks.due("heatsIn(" + size + ", 10)", hire.heatsIn(size, 10), most[size]);
            Checks.due("heatsIn(" + size + ", 60)", hire.heatsIn(size, 60), 0);
            Checks.fails("heatsIn(" + size + ", 9)", IllegalArgumentException.class, () -> hire.heatsIn(1, 9));
            Checks.fails("heatsIn(" + size + ", 61)", IllegalArgumentException.class, () -> hire.heatsIn(1, 61));
        }
    }

    private static void isWarmNow() {
        TubHire hire = new TubHire();
        for (int size = 1; size <= 3; size++) {
            Checks.due("heatsIn(" + size + ", 37)", hire.heatsIn(size, 37), 1);
            for (int warmth = 38; warmth <= 60; warmth++) {
                Checks.due("heatsIn(" + size + ", " + warmth + ")", hire.heatsIn(size, warmth), 0);
            }
        }
    }

    private static final int[][] OUT_OF_RANGE = {{0, 20}, {4, 20}, {-1, 20}, {1, 9}, {3, 61}, {2, -10}, {0, 0},
        {Integer.MIN_VALUE, 40}, {Integer.MAX_VALUE, 40}, {1, Integer.MIN_VALUE}, {1, Integer.MAX_VALUE}};

    private static void heatsInOutOfRange() {
        TubHire hire = new TubHire();
        for (int[] wrong : OUT_OF_RANGE) {
            Checks.fails("heatsIn(" + wrong[0] + ", " + wrong[1] + ")", IllegalArgumentException.class,
                    () -> hire.heatsIn(wrong[0], wrong[1]));
        }
    }

    private static void heatsAgainTheSame() {
        TubHire hire = new TubHire();
        TubHire other = new TubHire();
        for (int size = 1; size <= 3; size++) {
            for (int warmth = 10; warmth <= 60; warmth++) {
                int missing = Math.max(0, 38 - warmth);
                int hours = missing * size / 12 + (missing * size % 12 == 0 ? 0 : 1);
                String of = "(" + size + ", " + warmth + ")";
                Checks.due("heatsAgain" + of, hire.heatsAgain(size, warmth), hours);
                Checks.due("heatsIn" + of, other.heatsIn(size, warmth), hours);
            }
        }
    }

    private static void heatsAgainOfEachWarmth() {
        TubHire hire = new TubHire();
        int[] most = {0, 3, 5, 7};
        for (int size = 1; size <= 3; size++) {
            Checks.due("heatsAgain(" + size + ", 10)", hire.heatsAgain(size, 10), most[size]);
            Checks.due("heatsAgain(" + size + ", 37)", hire.heatsAgain(size, 37), 1);
            Checks.due("heatsAgain(" + size + ", 38)", hire.heatsAgain(size, 38), 0);
            Checks.due("heatsAgain(" + size + ", 60)", hire.heatsAgain(size, 60), 0);
        }
    }

    private static void heatsAgainOutOfRange() {
        TubHire hire = new TubHire();
        for (int[] wrong : OUT_OF_RANGE) {
            Checks.fails("heatsAgain(" + wrong[0] + ", " + wrong[1] + ")", IllegalArgumentException.class,
                    () -> hire.heatsAgain(wrong[0], wrong[1]));
        }
    }

    private static void onlyHoursGoBy() {
        TubHire hire = Checks.withTubs(2);
        hire.out(1, 0);
        hire.heat(0, 0);
        hire.join(0);
        hire.join(0);
        String before = Checks.state(hire);
        Checks.due("bathesIn(0)", hire.bathesIn(0), 5);
        Checks.due("bathesIn(1)", hire.bathesIn(1), 15);
        Checks.due("the state after bathesIn", Checks.state(hire), before);
        hire.pass(4);
        Checks.due("bathesIn(0) in the next hour", hire.bathesIn(0), 1);
        hire.pass(1);
        Checks.due("bathesIn(1) then", hire.bathesIn(1), 10);
        Checks.due("the baths in 9 hours", hire.pass(9), 0);
        Checks.due("the baths in the next one", hire.pass(1), 1);
        for (int slope = 0; slope <= 9; slope++) {
            TubHire sloping = Checks.withDirtyTub(1, slope);
            sloping.join(0);
            int draining = (99 + 20 + 10 * slope) / (20 + 10 * slope);
            Checks.due("bathesIn(1) on a slope of " + slope, sloping.bathesIn(1), draining + 5);
        }
    }

    private static void guestWhoDoesNotWait() {
        TubHire hire = Checks.withTubs(1);
        hire.out(0, 0);
        hire.heat(0, 0);
        Checks.fails("bathesIn(0) of nobody", NoSuchElementException.class, () -> hire.bathesIn(0));
        hire.join(0);
        for (int wrong : new int[] {-1, 1, 6, Integer.MIN_VALUE, Integer.MAX_VALUE}) {
            Checks.fails("bathesIn(" + wrong + ")", NoSuchElementException.class, () -> hire.bathesIn(wrong));
        }
        hire.pass(5);
        Checks.fails("bathesIn(0) after the bath", NoSuchElementException.class, () -> hire.bathesIn(0));
        hire.join(0);
        Checks.due("bathesIn(1)", hire.bathesIn(1), 10);
        hire.undo();
        Checks.fails("bathesIn(1) of a guest who was undone", NoSuchElementException.class, () -> hire.bathesIn(1));
    }

    /** On flat ground, a tub of size 3 is filled in 1 hour, warm after 7, bathed in in 1, and empty after 15. */
    private static void within60Hours() {
        TubHire hire = Checks.withTubOut(3, 0);
        hire.heater();
        hire.heat(0, 0);
        hire.gas(0, 2);
        for (int i = 0; i < 4; i++) {
            hire.join(0);
        }
        Checks.due("bathesIn(2)", hire.bathesIn(2), 57);
        hire.pass(20);
        Checks.fails("bathesIn(3), after 61 hours", NoSuchElementException.class, () -> hire.bathesIn(3));
        hire.pass(1);
        Checks.due("bathesIn(3), after 60 hours", hire.bathesIn(3), 60);
        hire.pass(1);
        Checks.due("bathesIn(3), after 59 hours", hire.bathesIn(3), 59);
        neverBathes();
    }

    private static void neverBathes() {
        TubHire cold = Checks.withTubOut(1, 0);
        cold.join(0);
        Checks.fails("bathesIn(0) without a heater", NoSuchElementException.class, () -> cold.bathesIn(0));
        cold.back(0);
        Checks.fails("bathesIn(0) without a tub", NoSuchElementException.class, () -> cold.bathesIn(0));
        TubHire torn = Checks.withWater(1, 50);
        torn.join(0);
        torn.tear(0, 0);
        Checks.fails("bathesIn(0) in a torn tub", NoSuchElementException.class, () -> torn.bathesIn(0));
    }
}
