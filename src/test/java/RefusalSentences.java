/** The sentences of "Terms" on refusals. */
final class RefusalSentences {
    private RefusalSentences() {
    }

    static void test(Sentences document) {
        document.holds(0, "Something is refused for the first of these reasons that applies, in the order in which its"
                + " method names them, with a detail:", RefusalSentences::firstReason);
        document.holds(0, "1, there are as many as there can be: this number;", RefusalSentences::asManyAsCanBe);
        document.holds(0, "2, the tub is in a tent: the tent;", RefusalSentences::tubInTent);
        document.holds(0, "3, the tub does not hold its water: the lowest torn seam;", RefusalSentences::lowestTornSeam);
        document.holds(0, "4, the tent has a tub: the tub;", RefusalSentences::tentHasTub);
        document.holds(0, "5, the tub is in the store: the tub;", RefusalSentences::tubInStore);
        document.holds(0, "6, the tent has no tub: the tent;", RefusalSentences::tentHasNoTub);
        document.holds(0, "7, the heater is in a tent: the tent;", RefusalSentences::heaterInTent);
        document.holds(0, "8, the tent has a heater: the heater;", RefusalSentences::tentHasHeater);
        document.holds(0, "9, the heater is in the store: the heater;", RefusalSentences::heaterInStore);
        document.holds(0, "10, no towel is clean: how many are used;", RefusalSentences::noTowelIsClean);
        document.holds(0, "11, the seam is not torn: the seam;", RefusalSentences::seamIsNotTorn);
        document.holds(0, "12, there are too few coins: how many are missing;", RefusalSentences::missingCoins);
        document.holds(0, "13, no towel is used: 0;", RefusalSentences::noTowelIsUsed);
        document.holds(0, "14, the tub has water: the litres.", RefusalSentences::tubHasWater);
        document.holds(0, "The reason of the latest refusal and its detail are kept.", RefusalSentences::latestIsKept);
    }

    /** Of two reasons that apply, the method tells the one that it names first. */
    private static void firstReason() {
        firstReasonOfTubs();
        firstReasonOfGuests();
        TubHire heaters = Checks.withTubs(2);
        heaters.heat(0, 0);
        heaters.heat(1, 1);
        Checks.refused(heaters, "heat for 7 and 8", 7, 1, () -> heaters.heat(1, 0));
        TubHire poor = new TubHire();
        poor.soap(10);
        Checks.refused(poor, "wash for 13 without coins", 13, 0, () -> poor.wash(20));
    }

    private static void firstReasonOfTubs() {
        TubHire hire = Checks.withTubs(4);
        hire.out(3, 2);
        hire.out(2, 1);
        Checks.refused(hire, "out for 2 and 4", 2, 2, () -> hire.out(3, 1));
        hire.tear(3, 1);
        Checks.refused(hire, "out for 2 and 3", 2, 2, () -> hire.out(3, 0));
        Checks.refused(hire, "out for 2, 3 and 4", 2, 2, () -> hire.out(3, 1));
        hire.tear(0, 4);
        Checks.refused(hire, "out for 3 and 4", 3, 4, () -> hire.out(0, 1));
        hire.pass(1);
        Checks.refused(hire, "mend for 11 and 14", 11, 7, () -> hire.mend(3, 7));
        hire.soap(13);
        Checks.refused(hire, "mend for 14 and 12", 14, 100, () -> hire.mend(3, 1));
        Checks.refused(hire, "mend for 11, 14 and 12", 11, 0, () -> hire.mend(3, 0));
        Checks.refused(hire, "mend for 11 and 12", 11, 6, () -> hire.mend(1, 6));
    }

    private static void firstReasonOfGuests() {
        TubHire hire = Checks.withoutTowels();
        Checks.refused(hire, "join for 1 and 10", 1, 6, () -> hire.join(1));
        Checks.refused(hire, "join for 6 and 10", 6, 3, () -> hire.join(3));
        hire.back(1);
        Checks.refused(hire, "join for 1, 6 and 10", 1, 6, () -> hire.join(1));
        TubHire towels = Checks.withTubOut(1, 0);
        for (int i = 0; i < 6; i++) {
            towels.join(0);
        }
        towels.back(0);
        Checks.refused(towels, "join for 1 and 6", 1, 6, () -> towels.join(0));
    }

    private static void asManyAsCanBe() {
        TubHire hire = new TubHire();
        for (int i = 0; i < 8; i++) {
            hire.tub(3);
        }
        Checks.refused(hire, "tub(3)", 1, 8, () -> hire.tub(3));
        for (int i = 0; i < 5; i++) {
            hire.tent(0);
        }
        Checks.refused(hire, "tent(0)", 1, 5, () -> hire.tent(0));
        for (int i = 0; i < 4; i++) {
            hire.heater();
        }
        Checks.refused(hire, "heater()", 1, 4, hire::heater);
        hire.out(0, 0);
        for (int i = 0; i < 6; i++) {
            hire.join(0);
        }
        Checks.refused(hire, "join(0)", 1, 6, () -> hire.join(0));
    }

    private static void tubInTent() {
        TubHire hire = Checks.withTubs(4);
        hire.tent(0);
        hire.out(1, 0);
        hire.out(2, 4);
        Checks.refused(hire, "out(1, 3)", 2, 0, () -> hire.out(1, 3));
        Checks.refused(hire, "out(2, 3)", 2, 4, () -> hire.out(2, 3));
        Checks.refused(hire, "out(2, 4) where it is", 2, 4, () -> hire.out(2, 4));
    }

    private static void lowestTornSeam() {
        TubHire hire = Checks.withTubs(1);
        for (int s = 7; s >= 0; s--) {
            int seam = s;
            hire.tear(0, seam);
            Checks.refused(hire, "out(0, 0), torn from " + seam + " on", 3, seam, () -> hire.out(0, 0));
        }
    }

    private static void tentHasTub() {
        TubHire hire = Checks.withTubs(4);
        hire.out(0, 3);
        hire.out(3, 0);
        Checks.refused(hire, "out(1, 3)", 4, 0, () -> hire.out(1, 3));
        Checks.refused(hire, "out(1, 0)", 4, 3, () -> hire.out(1, 0));
    }

    private static void tubInStore() {
        TubHire hire = Checks.withTubs(4);
        Checks.refused(hire, "back(0)", 5, 0, () -> hire.back(0));
        Checks.refused(hire, "back(3)", 5, 3, () -> hire.back(3));
        hire.out(2, 0);
        hire.back(2);
        Checks.refused(hire, "back(2) once more", 5, 2, () -> hire.back(2));
    }

    private static void tentHasNoTub() {
        TubHire hire = Checks.withTubs(4);
        Checks.refused(hire, "join(0)", 6, 0, () -> hire.join(0));
        Checks.refused(hire, "join(3)", 6, 3, () -> hire.join(3));
        hire.out(0, 3);
        hire.join(3);
        hire.back(0);
        Checks.refused(hire, "join(3) when its tub is back", 6, 3, () -> hire.join(3));
    }

    private static void heaterInTent() {
        TubHire hire = Checks.withTubs(4);
        hire.tent(0);
        hire.heat(3, 0);
        hire.heat(0, 4);
        Checks.refused(hire, "heat(3, 1)", 7, 0, () -> hire.heat(3, 1));
        Checks.refused(hire, "heat(0, 1)", 7, 4, () -> hire.heat(0, 1));
        Checks.refused(hire, "heat(0, 4) where it is", 7, 4, () -> hire.heat(0, 4));
    }

    private static void tentHasHeater() {
        TubHire hire = Checks.withTubs(4);
        hire.heat(0, 3);
        hire.heat(3, 0);
        Checks.refused(hire, "heat(1, 3)", 8, 0, () -> hire.heat(1, 3));
        Checks.refused(hire, "heat(1, 0)", 8, 3, () -> hire.heat(1, 0));
    }

    private static void heaterInStore() {
        TubHire hire = Checks.withTubs(4);
        Checks.refused(hire, "cold(0)", 9, 0, () -> hire.cold(0));
        Checks.refused(hire, "cold(3)", 9, 3, () -> hire.cold(3));
        hire.heat(2, 0);
        hire.cold(2);
        Checks.refused(hire, "cold(2) once more", 9, 2, () -> hire.cold(2));
    }

    private static void noTowelIsClean() {
        TubHire hire = Checks.withoutTowels();
        hire.out(2, 2);
        Checks.refused(hire, "join(2) with no towel used", 10, 0, () -> hire.join(2));
        hire.pass(5);
        Checks.refused(hire, "join(0) with one towel used", 10, 1, () -> hire.join(0));
        hire.pass(10);
        Checks.due("the used towels after 15 hours", hire.number(8), 2);
        Checks.refused(hire, "join(0) with two towels used", 10, 2, () -> hire.join(0));
        hire.wash(1);
        Checks.due("join(0) with one towel clean", hire.join(0), 12);
    }

    private static void seamIsNotTorn() {
        TubHire hire = Checks.withTubs(1);
        for (int s = 0; s < 8; s++) {
            int seam = s;
            Checks.refused(hire, "mend(0, " + seam + ")", 11, seam, () -> hire.mend(0, seam));
        }
        hire.tear(0, 4);
        Checks.refused(hire, "mend(0, 3) beside a torn seam", 11, 3, () -> hire.mend(0, 3));
        hire.mend(0, 4);
        Checks.refused(hire, "mend(0, 4) once more", 11, 4, () -> hire.mend(0, 4));
    }

    private static void missingCoins() {
        TubHire hire = Checks.withTubs(1);
        hire.tear(0, 0);
        Checks.refused(hire, "gas(0, 11) with 10 coins", 12, 1, () -> hire.gas(0, 11));
        Checks.refused(hire, "soap(20) with 10 coins", 12, 10, () -> hire.soap(20));
        hire.soap(9);
        Checks.refused(hire, "mend(0, 0) with 1 coin", 12, 1, () -> hire.mend(0, 0));
        hire.soap(1);
        Checks.refused(hire, "mend(0, 0) without coins", 12, 2, () -> hire.mend(0, 0));
        Checks.refused(hire, "gas(0, 12) without coins", 12, 12, () -> hire.gas(0, 12));
        Checks.refused(hire, "soap(1) without coins", 12, 1, () -> hire.soap(1));
    }

    private static void noTowelIsUsed() {
        TubHire hire = Checks.withDirtyTub(1, 0);
        hire.wash(1);
        Checks.refused(hire, "wash(1) once more", 13, 0, () -> hire.wash(1));
        TubHire fresh = new TubHire();
        Checks.refused(fresh, "wash(20) of a new object", 13, 0, () -> fresh.wash(20));
    }

    private static void tubHasWater() {
        for (int size = 1; size <= 3; size++) {
            int litres = 100 * size;
            TubHire hire = Checks.withTubOut(size, 0);
            hire.tear(0, 1);
            hire.pass(1);
            Checks.refused(hire, "mend(0, 1) in a tub that is full", 14, litres, () -> hire.mend(0, 1));
            TubHire dirty = Checks.withDirtyTub(size, 0);
            dirty.pass(5 * size - 1);
            dirty.tear(0, 1);
            Checks.refused(dirty, "mend(0, 1) in the last of the water", 14, 20, () -> dirty.mend(0, 1));
        }
    }

    private static void latestIsKept() {
        TubHire hire = Checks.withTubs(1);
        Checks.refused(hire, "cold(0)", 9, 0, () -> hire.cold(0));
        Checks.refused(hire, "mend(0, 5)", 11, 5, () -> hire.mend(0, 5));
        hire.out(0, 0);
        hire.pass(2);
        Checks.fails("wash(0)", IllegalArgumentException.class, () -> hire.wash(0));
        Checks.fails("out(1, 0)", IndexOutOfBoundsException.class, () -> hire.out(1, 0));
        Checks.due("the reason", hire.refusal(true), 11);
        Checks.due("the detail", hire.refusal(false), 5);
        Checks.feed(hire, "hours 1;hours 0");
        Checks.refused(hire, "read()", 20, 1, hire::read);
        Checks.refused(hire, "wash(1)", 13, 0, () -> hire.wash(1));
    }
}
