import java.util.NoSuchElementException;

/** The sentences of promises 1 to 9 that name a boundary case. */
final class TubSentences {
    private TubSentences() {
    }

    static void test(Sentences document) {
        document.holds(1, "Creates a store without tubs, tents and heaters.", TubSentences::newObject);
        document.holds(2, "Throws IllegalArgumentException if the size is out of range", TubSentences::sizeOutOfRange);
        document.holds(2, "Throws UnsupportedOperationException if it is refused, for the reason 1",
                TubSentences::ninthTub);
        document.holds(3, "1 its tent, -1 in the store;", TubSentences::tentOfTub);
        document.holds(3, "2 its torn seams, bit k for the seam k;", TubSentences::seamsAsBits);
        document.holds(3, "3 its litres, 0 in the store;", TubSentences::litresOfTub);
        document.holds(3, "4 the warmth of its water, 0 without water;", TubSentences::warmthOfTub);
        document.holds(3, "5 for 1 if this is dirty, and 0 otherwise;", TubSentences::dirtOfTub);
        document.holds(3, "6 its baths so far", TubSentences::bathsOfTub);
        document.holds(3, "Throws IndexOutOfBoundsException if there is no such tub", TubSentences::tubOfNoTub);
        document.holds(3, "Throws IllegalArgumentException if what is out of range", TubSentences::tubOfOutOfRange);
        document.holds(4, "Returns the first torn seam of a tub, from one on.", TubSentences::firstTorn);
        document.holds(4, "seam: the seam from which on it is looked for", TubSentences::tornFromItself);
        document.holds(4, "Throws IndexOutOfBoundsException if there is no such tub or seam",
                TubSentences::tornOfNoTubOrSeam);
        document.holds(4, "Throws NoSuchElementException if there is none", TubSentences::tornOfNone);
        document.holds(5, "Returns how many are torn then.", TubSentences::howManyAreTorn);
        document.holds(5, "Throws IndexOutOfBoundsException if there is no such tub or seam",
                TubSentences::tearOfNoTubOrSeam);
        document.holds(6, "Mends a seam of a tub without water.", TubSentences::mendsWithoutWater);
        document.holds(6, "Returns how many are torn then.", TubSentences::howManyAreLeftTorn);
        document.holds(6, "Throws IndexOutOfBoundsException if there is no such tub or seam",
                TubSentences::mendOfNoTubOrSeam);
        document.holds(6, "Throws UnsupportedOperationException if it is refused, for the reason 11, 14 or 12",
                TubSentences::refusedMend);
        document.holds(7, "Returns the greatest tub in the store that holds its water;", TubSentences::greatestTub);
        document.holds(7, "of several the one with the fewest baths,", TubSentences::fewestBaths);
        document.holds(7, "of these the lowest one.", TubSentences::lowestTub);
        document.holds(7, "Throws NoSuchElementException if there is none", TubSentences::noBestTub);
        document.holds(8, "Returns the coins that are there then.", TubSentences::coinsOfOut);
        document.holds(8, "Throws IndexOutOfBoundsException if there is no such tub or tent",
                TubSentences::outOfNoTubOrTent);
        document.holds(8, "Throws UnsupportedOperationException if it is refused, for the reason 2, 3 or 4",
                TubSentences::refusedOut);
        document.holds(9, "its water is gone,", TubSentences::waterIsGone);
        document.holds(9, "and guests who wait in the tent go on waiting.", TubSentences::guestsGoOnWaiting);
        document.holds(9, "Returns the litres that it had.", TubSentences::litresThatItHad);
        document.holds(9, "Throws IndexOutOfBoundsException if there is no such tub", TubSentences::backOfNoTub);
        document.holds(9, "Throws UnsupportedOperationException if it is refused, for the reason 5",
                TubSentences::backFromStore);
    }

    private static void newObject() {
        TubHire hire = new TubHire();
        int[] first = {0, 0, 0, 0, 0, 0, 0, 12, 0, 0, 0, 0, 10, 10, 0, 0, 0};
        for (int what = 0; what < first.length; what++) {
            Checks.due("number(" + what + ")", hire.number(what), first[what]);
        }
        Checks.fails("tubOf(0, 0)", IndexOutOfBoundsException.class, () -> hire.tubOf(0, 0));
        Checks.fails("tentOf(0, 0)", IndexOutOfBoundsException.class, () -> hire.tentOf(0, 0));
        Checks.fails("heaterOf(0, true)", IndexOutOfBoundsException.class, () -> hire.heaterOf(0, true));
        Checks.fails("character(0)", IndexOutOfBoundsException.class, () -> hire.character(0));
        Checks.fails("faultPosition()", NoSuchElementException.class, hire::faultPosition);
        Checks.fails("refusal(true)", NoSuchElementException.class, () -> hire.refusal(true));
        Checks.fails("undo()", IllegalStateException.class, hire::undo);
        Checks.fails("restoreSnapshot()", IllegalStateException.class, hire::restoreSnapshot);
        new TubHire().tub(1);
        Checks.due("the tubs beside another object", hire.number(1), 0);
    }

    private static void sizeOutOfRange() {
        TubHire hire = new TubHire();
        for (int size : new int[] {0, 4, -1, Integer.MIN_VALUE, Integer.MAX_VALUE}) {
            Checks.fails("tub(" + size + ")", IllegalArgumentException.class, () -> hire.tub(size));
        }
        Checks.due("the tubs", hire.number(1), 0);
        Checks.due("tub(1)", hire.tub(1), 0);
        Checks.due("tub(3)", hire.tub(3), 1);
    }

    private static void ninthTub() {
        TubHire hire = new TubHire();
        for (int tub = 0; tub < 8; tub++) {
            Checks.due("tub(1)", hire.tub(1), tub);
        }
        Checks.refused(hire, "a ninth tub", 1, 8, () -> hire.tub(1));
        hire.undo();
        Checks.due("an eighth tub again", hire.tub(2), 7);
        Checks.due("its size", hire.tubOf(7, 0), 2);
    }

    private static void tentOfTub() {
        TubHire hire = Checks.withTubs(2);
        hire.out(1, 0);
        Checks.due("the tent of tub 0", hire.tubOf(0, 1), -1);
        Checks.due("the tent of tub 1", hire.tubOf(1, 1), 0);
        hire.back(1);
        Checks.due("the tent of tub 1 when it is back", hire.tubOf(1, 1), -1);
    }

    private static void seamsAsBits() {
        TubHire hire = new TubHire();
        hire.tub(1);
        Checks.due("no seams", hire.tubOf(0, 2), 0);
        hire.tear(0, 0);
        Checks.due("seam 0", hire.tubOf(0, 2), 1);
        hire.tear(0, 7);
        Checks.due("seams 0 and 7", hire.tubOf(0, 2), 129);
        for (int seam = 1; seam < 7; seam++) {
            hire.tear(0, seam);
        }
        Checks.due("all seams", hire.tubOf(0, 2), 255);
        hire.mend(0, 0);
        Checks.due("all seams but 0", hire.tubOf(0, 2), 254);
    }

    private static void litresOfTub() {
        TubHire hire = Checks.withWater(3, 10);
        Checks.due("the litres in a tent", hire.tubOf(0, 3), 300);
        hire.back(0);
        Checks.due("the litres in the store", hire.tubOf(0, 3), 0);
        hire.pass(1);
        Checks.due("the litres in the store after an hour", hire.tubOf(0, 3), 0);
    }

    private static void warmthOfTub() {
        TubHire hire = Checks.withTubOut(1, 9);
        Checks.due("the warmth at first", hire.tubOf(0, 4), 0);
        hire.pass(1);
        Checks.due("the warmth of water", hire.tubOf(0, 4), 10);
        hire.back(0);
        Checks.due("the warmth in the store", hire.tubOf(0, 4), 0);
        TubHire drained = Checks.withDirtyTub(1, 9);
        Checks.due("the warmth of the bath", drained.tubOf(0, 4), 46);
        drained.pass(1);
        Checks.due("the warmth when all is drained", drained.tubOf(0, 4), 0);
    }

    private static void dirtOfTub() {
        TubHire hire = Checks.withTubOut(1, 0);
        Checks.due("dirt without water", hire.tubOf(0, 5), 0);
        hire.pass(1);
        Checks.due("dirt of clean water", hire.tubOf(0, 5), 0);
        TubHire dirty = Checks.withDirtyTub(1, 0);
        Checks.due("dirt after a bath", dirty.tubOf(0, 5), 1);
        dirty.pass(4);
        Checks.due("dirt of the last litres", dirty.tubOf(0, 5), 1);
        dirty.pass(1);
        Checks.due("dirt when all is drained", dirty.tubOf(0, 5), 0);
        TubHire stored = Checks.withDirtyTub(1, 0);
        stored.back(0);
        Checks.due("dirt in the store", stored.tubOf(0, 5), 0);
    }

    private static void bathsOfTub() {
        TubHire hire = Checks.withTubs(2);
        hire.heat(0, 0);
        hire.out(0, 0);
        Checks.due("no baths", hire.tubOf(0, 6), 0);
        Checks.takeBaths(hire, 0, 2);
        Checks.due("two baths", hire.tubOf(0, 6), 2);
        hire.back(0);
        Checks.due("two baths in the store", hire.tubOf(0, 6), 2);
        Checks.due("the baths of the other tub", hire.tubOf(1, 6), 0);
    }

    private static void tubOfNoTub() {
        TubHire hire = Checks.withTubs(2);
        for (int tub : new int[] {-1, 2, 7, 8, Integer.MIN_VALUE, Integer.MAX_VALUE}) {
            Checks.fails("tubOf(" + tub + ", 0)", IndexOutOfBoundsException.class, () -> hire.tubOf(tub, 0));
            Checks.fails("tubOf(" + tub + ", 7)", IndexOutOfBoundsException.class, () -> hire.tubOf(tub, 7));
        }
        Checks.due("tubOf(1, 0)", hire.tubOf(1, 0), 1);
    }

    private static void tubOfOutOfRange() {
        TubHire hire = Checks.withTubs(1);
        for (int what : new int[] {-1, 7, Integer.MIN_VALUE, Integer.MAX_VALUE}) {
            Checks.fails("tubOf(0, " + what + ")", IllegalArgumentException.class, () -> hire.tubOf(0, what));
        }
        Checks.due("tubOf(0, 0)", hire.tubOf(0, 0), 1);
        Checks.due("tubOf(0, 6)", hire.tubOf(0, 6), 0);
    }

    private static void firstTorn() {
        TubHire hire = new TubHire();
        hire.tub(1);
        hire.tear(0, 7);
        Checks.due("torn(0, 0) of the last seam", hire.torn(0, 0), 7);
        hire.tear(0, 3);
        Checks.due("torn(0, 0) of two", hire.torn(0, 0), 3);
        Checks.due("torn(0, 4) of two", hire.torn(0, 4), 7);
        hire.tear(0, 0);
        Checks.due("torn(0, 0) of three", hire.torn(0, 0), 0);
        Checks.due("torn(0, 1) of three", hire.torn(0, 1), 3);
    }

    private static void tornFromItself() {
        TubHire hire = new TubHire();
        hire.tub(1);
        for (int seam = 0; seam < 8; seam++) {
            hire.tear(0, seam);
        }
        for (int seam = 0; seam < 8; seam++) {
            Checks.due("torn(0, " + seam + ")", hire.torn(0, seam), seam);
        }
    }

    private static void tornOfNoTubOrSeam() {
        TubHire hire = Checks.withTubs(1);
        hire.tear(0, 7);
        for (int wrong : new int[] {-1, 8, Integer.MIN_VALUE, Integer.MAX_VALUE}) {
            Checks.fails("torn(0, " + wrong + ")", IndexOutOfBoundsException.class, () -> hire.torn(0, wrong));
            Checks.fails("torn(" + wrong + ", 0)", IndexOutOfBoundsException.class, () -> hire.torn(wrong, 0));
        }
        Checks.fails("torn(1, 0)", IndexOutOfBoundsException.class, () -> hire.torn(1, 0));
        Checks.due("torn(0, 7)", hire.torn(0, 7), 7);
    }

    private static void tornOfNone() {
        TubHire hire = Checks.withTubs(1);
        Checks.fails("torn(0, 0) of a whole tub", NoSuchElementException.class, () -> hire.torn(0, 0));
        Checks.fails("torn(0, 7) of a whole tub", NoSuchElementException.class, () -> hire.torn(0, 7));
        hire.tear(0, 6);
        Checks.due("torn(0, 6)", hire.torn(0, 6), 6);
        Checks.fails("torn(0, 7) behind the last one", NoSuchElementException.class, () -> hire.torn(0, 7));
        hire.mend(0, 6);
        Checks.fails("torn(0, 0) of a mended tub", NoSuchElementException.class, () -> hire.torn(0, 0));
    }

    private static void howManyAreTorn() {
        TubHire hire = Checks.withTubs(2);
        hire.tear(1, 5);
        for (int seam = 0; seam < 8; seam++) {
            Checks.due("tear(0, " + seam + ")", hire.tear(0, seam), seam + 1);
            Checks.due("tear(0, " + seam + ") once more", hire.tear(0, seam), seam + 1);
        }
        Checks.due("the torn seams of all tubs", hire.number(3), 9);
    }

    private static void tearOfNoTubOrSeam() {
        TubHire hire = Checks.withTubs(1);
        for (int wrong : new int[] {-1, 8, Integer.MIN_VALUE, Integer.MAX_VALUE}) {
            Checks.fails("tear(0, " + wrong + ")", IndexOutOfBoundsException.class, () -> hire.tear(0, wrong));
            Checks.fails("tear(" + wrong + ", 0)", IndexOutOfBoundsException.class, () -> hire.tear(wrong, 0));
        }
        Checks.fails("tear(1, 0)", IndexOutOfBoundsException.class, () -> hire.tear(1, 0));
        Checks.due("the torn seams", hire.number(3), 0);
        Checks.due("tear(0, 0)", hire.tear(0, 0), 1);
        Checks.due("tear(0, 7)", hire.tear(0, 7), 2);
    }

    private static void mendsWithoutWater() {
        TubHire hire = Checks.withTubs(1);
        hire.tear(0, 0);
        Checks.due("mend(0, 0) in the store", hire.mend(0, 0), 0);
        hire.out(0, 0);
        hire.tear(0, 7);
        Checks.due("mend(0, 7) in a tent without water", hire.mend(0, 7), 0);
        hire.tear(0, 7);
        hire.pass(1);
        Checks.refused(hire, "mend(0, 7) with water", 14, 100, () -> hire.mend(0, 7));
        hire.back(0);
        Checks.due("mend(0, 7) in the store again", hire.mend(0, 7), 0);
    }

    private static void howManyAreLeftTorn() {
        TubHire hire = Checks.withTubs(1);
        for (int seam = 0; seam < 3; seam++) {
            hire.tear(0, seam);
        }
        Checks.due("mend(0, 1)", hire.mend(0, 1), 2);
        Checks.due("mend(0, 2)", hire.mend(0, 2), 1);
        Checks.due("mend(0, 0)", hire.mend(0, 0), 0);
    }

    private static void mendOfNoTubOrSeam() {
        TubHire hire = Checks.withTubs(1);
        for (int wrong : new int[] {-1, 8, Integer.MIN_VALUE, Integer.MAX_VALUE}) {
            Checks.fails("mend(0, " + wrong + ")", IndexOutOfBoundsException.class, () -> hire.mend(0, wrong));
            Checks.fails("mend(" + wrong + ", 0)", IndexOutOfBoundsException.class, () -> hire.mend(wrong, 0));
        }
        Checks.fails("mend(1, 0)", IndexOutOfBoundsException.class, () -> hire.mend(1, 0));
    }

    private static void refusedMend() {
        TubHire hire = Checks.withTubOut(2, 0);
        hire.tear(0, 7);
        Checks.refused(hire, "mend(0, 6)", 11, 6, () -> hire.mend(0, 6));
        hire.pass(1);
        hire.soap(13);
        Checks.refused(hire, "mend(0, 7) with water and 1 coin", 14, 200, () -> hire.mend(0, 7));
        hire.back(0);
        Checks.refused(hire, "mend(0, 7) with 1 coin", 12, 1, () -> hire.mend(0, 7));
        Checks.due("the seams", hire.tubOf(0, 2), 128);
        Checks.due("the coins", hire.number(13), 1);
    }

    private static void greatestTub() {
        TubHire hire = new TubHire();
        hire.tub(2);
        hire.tub(3);
        hire.tub(1);
        hire.tent(0);
        Checks.due("bestTub()", hire.bestTub(), 1);
        hire.out(1, 0);
        Checks.due("bestTub() with the greatest one out", hire.bestTub(), 0);
        hire.tear(0, 7);
        Checks.due("bestTub() with the next one torn", hire.bestTub(), 2);
        hire.back(1);
        Checks.due("bestTub() with the greatest one back", hire.bestTub(), 1);
    }

    private static void fewestBaths() {
        TubHire hire = Checks.withTubs(3);
        hire.heat(0, 0);
        hire.out(0, 0);
        Checks.takeBaths(hire, 0, 2);
        hire.back(0);
        Checks.due("bestTub() after 2 baths in tub 0", hire.bestTub(), 1);
        hire.out(1, 0);
        Checks.takeBaths(hire, 1, 1);
        hire.back(1);
        Checks.due("bestTub() after a bath in tub 1 too", hire.bestTub(), 2);
        hire.tear(2, 0);
        Checks.due("bestTub() of 2 baths or 1", hire.bestTub(), 1);
        hire.tub(2);
        Checks.due("bestTub() of a greater one", hire.bestTub(), 3);
        for (int bath = 0; bath < 3; bath++) {
            hire.out(3, 0);
            hire.gas(0, 1);
            hire.join(0);
            hire.pass(7);
            hire.back(3);
        }
        Checks.due("the baths in tub 3", hire.tubOf(3, 6), 3);
        Checks.due("bestTub() of a greater one with more baths", hire.bestTub(), 3);
    }

    private static void lowestTub() {
        TubHire hire = new TubHire();
        for (int tub = 0; tub < 8; tub++) {
            hire.tub(3);
            Checks.due("bestTub() of " + (tub + 1) + " tubs", hire.bestTub(), 0);
        }
        for (int tub = 0; tub < 7; tub++) {
            hire.tear(tub, tub);
            Checks.due("bestTub() with " + (tub + 1) + " torn", hire.bestTub(), tub + 1);
        }
    }

    private static void noBestTub() {
        TubHire hire = new TubHire();
        Checks.fails("bestTub() without tubs", NoSuchElementException.class, hire::bestTub);
        hire.tub(1);
        hire.tub(1);
        hire.tent(0);
        hire.out(0, 0);
        Checks.due("bestTub() with one in the store", hire.bestTub(), 1);
        hire.tear(1, 7);
        Checks.fails("bestTub() with one out and one torn", NoSuchElementException.class, hire::bestTub);
    }

    private static void coinsOfOut() {
        TubHire hire = new TubHire();
        hire.soap(10);
        int coins = 0;
        for (int size = 1; size <= 3; size++) {
            hire.tub(size);
            hire.tent(0);
            coins += 2 * size;
            Checks.due("out of size " + size, hire.out(size - 1, size - 1), coins);
        }
        Checks.due("the coins", hire.number(13), 12);
    }

    private static void outOfNoTubOrTent() {
        TubHire hire = Checks.withTubs(2);
        for (int wrong : new int[] {-1, 2, 5, 8, Integer.MIN_VALUE, Integer.MAX_VALUE}) {
            Checks.fails("out(0, " + wrong + ")", IndexOutOfBoundsException.class, () -> hire.out(0, wrong));
            Checks.fails("out(" + wrong + ", 0)", IndexOutOfBoundsException.class, () -> hire.out(wrong, 0));
        }
        Checks.due("the tubs in tents", hire.number(2), 0);
        Checks.due("out(1, 1)", hire.out(1, 1), 12);
    }

    private static void refusedOut() {
        TubHire hire = Checks.withTubs(3);
        hire.out(0, 1);
        hire.tear(1, 6);
        Checks.refused(hire, "out(0, 2)", 2, 1, () -> hire.out(0, 2));
        Checks.refused(hire, "out(1, 2)", 3, 6, () -> hire.out(1, 2));
        Checks.refused(hire, "out(2, 1)", 4, 0, () -> hire.out(2, 1));
        Checks.due("the coins", hire.number(13), 12);
        Checks.due("out(2, 2)", hire.out(2, 2), 14);
    }

    private static void waterIsGone() {
        TubHire hire = Checks.withDirtyTub(1, 0);
        hire.back(0);
        Checks.due("the litres", hire.tubOf(0, 3), 0);
        Checks.due("the warmth", hire.tubOf(0, 4), 0);
        Checks.due("the dirt", hire.tubOf(0, 5), 0);
        Checks.due("the litres in all tubs", hire.number(14), 0);
        Checks.fails("meanWarmth()", ArithmeticException.class, hire::meanWarmth);
    }

    private static void guestsGoOnWaiting() {
        TubHire hire = Checks.withTubs(2);
        hire.out(0, 0);
        hire.heat(0, 0);
        hire.join(0);
        hire.join(0);
        hire.pass(3);
        hire.back(0);
        Checks.due("who waits", hire.tentOf(0, 3), 2);
        Checks.due("who waits first", hire.waiting(0, 0), 0);
        Checks.due("the baths without a tub", hire.pass(48), 0);
        Checks.due("who waits still", hire.number(9), 2);
        Checks.due("the heater of the tent", hire.tentOf(0, 2), 0);
        hire.out(1, 0);
        Checks.due("the baths with another tub", hire.pass(5), 1);
        Checks.due("who waits then", hire.waiting(0, 0), 1);
    }

    private static void litresThatItHad() {
        TubHire hire = Checks.withTubOut(3, 0);
        Checks.due("back(0) without water", hire.back(0), 0);
        hire.out(0, 0);
        hire.pass(1);
        Checks.due("back(0) when it is full", hire.back(0), 300);
        TubHire dirty = Checks.withDirtyTub(1, 0);
        dirty.pass(4);
        Checks.due("back(0) with the last litres", dirty.back(0), 20);
    }

    private static void backOfNoTub() {
        TubHire hire = Checks.withTubs(1);
        hire.out(0, 0);
        for (int wrong : new int[] {-1, 1, 8, Integer.MIN_VALUE, Integer.MAX_VALUE}) {
            Checks.fails("back(" + wrong + ")", IndexOutOfBoundsException.class, () -> hire.back(wrong));
        }
        Checks.due("the tubs in tents", hire.number(2), 1);
    }

    private static void backFromStore() {
        TubHire hire = Checks.withTubs(2);
        Checks.refused(hire, "back(1)", 5, 1, () -> hire.back(1));
        hire.out(1, 0);
        hire.back(1);
        Checks.refused(hire, "back(1) once more", 5, 1, () -> hire.back(1));
        Checks.refused(hire, "back(0)", 5, 0, () -> hire.back(0));
    }
}
