import java.util.NoSuchElementException;

/** The sentences of "Terms" on tubs, tents, heaters, towels, soap and coins. */
final class ThingsSentences {
    private ThingsSentences() {
    }

    static void test(Sentences document) {
        document.holds(0, "An object is used for at most 512 calls after it has been made",
                ThingsSentences::answers512Calls);
        document.holds(0, "There are at most 8 tubs, numbered from 0,", ThingsSentences::eightTubs);
        document.holds(0, "each of a size from 1 to 3,", ThingsSentences::sizes);
        document.holds(0, "and with the seams 0 to 7,", ThingsSentences::seams);
        document.holds(0, "of which each is torn or not, as at first.", ThingsSentences::noSeamIsTornAtFirst);
        document.holds(0, "A tub is in the store, as at first, or in a tent.", ThingsSentences::tubsAreStoredAtFirst);
        document.holds(0, "It holds its water if no seam is torn.", ThingsSentences::eachSeamLetsWaterOut);
        document.holds(0, "There are at most 5 tents, numbered from 0,", ThingsSentences::fiveTents);
        document.holds(0, "each with a slope from 0 to 9,", ThingsSentences::slopes);
        document.holds(0, "with a tub or none, with a heater or none, and with a queue of guests.",
                ThingsSentences::tentsAreBareAtFirst);
        document.holds(0, "There are at most 4 heaters, numbered from 0,", ThingsSentences::fourHeaters);
        document.holds(0, "each with gas from 0 to 60,", ThingsSentences::leastAndMostGas);
        document.holds(0, "at first 20,", ThingsSentences::gasAtFirst);
        document.holds(0, "in a tent or in the store, as at first.", ThingsSentences::heatersAreStoredAtFirst);
        document.holds(0, "There are towels, 12 clean ones at first, used ones, and those of guests who wait;",
                ThingsSentences::twelveTowels);
        document.holds(0, "there is soap from 0 to 99 slices,", ThingsSentences::leastAndMostSoap);
        document.holds(0, "at first 10.", ThingsSentences::soapAtFirst);
        document.holds(0, "Guests are numbered from 0 as they come;", ThingsSentences::guestsAreNumbered);
        document.holds(0, "each takes a clean towel and joins the queue of a tent;", ThingsSentences::lastCleanTowel);
        document.holds(0, "at most 6 wait there.", ThingsSentences::sixWait);
        document.holds(0, "There are 10 coins at first.", ThingsSentences::tenCoins);
        document.holds(0, "A tent pays 2 coins for each degree of the size when a tub goes out to it.",
                ThingsSentences::tentsPay);
        document.holds(0, "To mend a seam costs 2 coins,", ThingsSentences::mendingCosts);
        document.holds(0, "to wash a used towel 1 coin,", ThingsSentences::washingCosts);
        document.holds(0, "a slice of soap 1 coin,", ThingsSentences::soapCosts);
        document.holds(0, "and 5 of gas 1 coin.", ThingsSentences::gasCosts);
    }

    private static void answers512Calls() {
        TubHire hire = new TubHire();
        for (int call = 1; call < 512; call++) {
            hire.pass(48);
        }
        Checks.due("the hour, as the 512th call", hire.number(0), 511 * 48);
    }

    private static void eightTubs() {
        TubHire hire = new TubHire();
        for (int tub = 0; tub < 8; tub++) {
            Checks.due("tub " + tub, hire.tub(1), tub);
        }
        Checks.refused(hire, "a ninth tub", 1, 8, () -> hire.tub(1));
        Checks.due("the tubs", hire.number(1), 8);
        Checks.due("the size of tub 7", hire.tubOf(7, 0), 1);
        Checks.fails("tubOf(8, 0)", IndexOutOfBoundsException.class, () -> hire.tubOf(8, 0));
    }

    private static void sizes() {
        TubHire hire = new TubHire();
        for (int size = 1; size <= 3; size++) {
            Checks.due("tub(" + size + ")", hire.tub(size), size - 1);
            Checks.due("its size", hire.tubOf(size - 1, 0), size);
        }
        Checks.fails("tub(0)", IllegalArgumentException.class, () -> hire.tub(0));
        Checks.fails("tub(4)", IllegalArgumentException.class, () -> hire.tub(4));
    }

    private static void seams() {
        TubHire hire = new TubHire();
        hire.tub(1);
        for (int seam = 0; seam < 8; seam++) {
            Checks.due("tear(0, " + seam + ")", hire.tear(0, seam), seam + 1);
        }
        Checks.fails("tear(0, 8)", IndexOutOfBoundsException.class, () -> hire.tear(0, 8));
        Checks.fails("tear(0, -1)", IndexOutOfBoundsException.class, () -> hire.tear(0, -1));
        Checks.due("the seams", hire.tubOf(0, 2), 255);
    }

    private static void noSeamIsTornAtFirst() {
        TubHire hire = new TubHire();
        for (int tub = 0; tub < 8; tub++) {
            int made = hire.tub(3);
            Checks.due("the seams of a new tub", hire.tubOf(made, 2), 0);
            Checks.fails("torn of a new tub", NoSuchElementException.class, () -> hire.torn(made, 0));
            hire.tear(made, 7 - tub);
        }
        hire.undo();
        hire.undo();
        hire.tub(1);
        Checks.due("the seams of a tub in place of one that was undone", hire.tubOf(7, 2), 0);
    }

    private static void tubsAreStoredAtFirst() {
        TubHire hire = new TubHire();
        for (int tub = 0; tub < 8; tub++) {
            hire.tub(1);
            Checks.due("the tent of a new tub", hire.tubOf(tub, 1), -1);
        }
        for (int tent = 0; tent < 5; tent++) {
            hire.tent(0);
        }
        hire.out(7, 4);
        hire.out(6, 0);
        Checks.due("the tent of tub 7", hire.tubOf(7, 1), 4);
        Checks.due("the tent of tub 6", hire.tubOf(6, 1), 0);
        Checks.due("the tubs in tents", hire.number(2), 2);
    }

    private static void eachSeamLetsWaterOut() {
        for (int s = 0; s < 8; s++) {
            int seam = s;
            TubHire hire = new TubHire();
            hire.tub(1);
            hire.tent(0);
            hire.tear(0, seam);
            Checks.refused(hire, "out(0, 0), torn at " + seam, 3, seam, () -> hire.out(0, 0));
            Checks.fails("bestTub(), torn at " + seam, NoSuchElementException.class, hire::bestTub);
            hire.mend(0, seam);
            Checks.due("bestTub(), mended at " + seam, hire.bestTub(), 0);
            Checks.due("out(0, 0), mended at " + seam, hire.out(0, 0), 10);
        }
    }

    private static void fiveTents() {
        TubHire hire = new TubHire();
        for (int tent = 0; tent < 5; tent++) {
            Checks.due("tent " + tent, hire.tent(1), tent);
        }
        Checks.refused(hire, "a sixth tent", 1, 5, () -> hire.tent(1));
        Checks.due("the tents", hire.number(4), 5);
        Checks.due("the slope of tent 4", hire.tentOf(4, 0), 1);
        Checks.fails("tentOf(5, 0)", IndexOutOfBoundsException.class, () -> hire.tentOf(5, 0));
    }

    private static void slopes() {
        for (int slope = 0; slope <= 9; slope++) {
            TubHire hire = new TubHire();
            Checks.due("tent(" + slope + ")", hire.tent(slope), 0);
            Checks.due("its slope", hire.tentOf(0, 0), slope);
        }
        TubHire hire = new TubHire();
        Checks.fails("tent(-1)", IllegalArgumentException.class, () -> hire.tent(-1));
        Checks.fails("tent(10)", IllegalArgumentException.class, () -> hire.tent(10));
    }

    private static void tentsAreBareAtFirst() {
        TubHire hire = Checks.withTubs(4);
        hire.tent(0);
        for (int tent = 0; tent < 5; tent++) {
            Checks.due("the tub of a new tent", hire.tentOf(tent, 1), -1);
            Checks.due("the heater of a new tent", hire.tentOf(tent, 2), -1);
            Checks.due("the queue of a new tent", hire.tentOf(tent, 3), 0);
        }
        hire.out(0, 4);
        hire.heat(0, 4);
        hire.join(4);
        Checks.due("the tub of tent 4", hire.tentOf(4, 1), 0);
        Checks.due("the heater of tent 4", hire.tentOf(4, 2), 0);
        Checks.due("the queue of tent 4", hire.tentOf(4, 3), 1);
    }

    private static void fourHeaters() {
        TubHire hire = new TubHire();
        for (int heater = 0; heater < 4; heater++) {
            Checks.due("heater " + heater, hire.heater(), heater);
        }
        Checks.refused(hire, "a fifth heater", 1, 4, hire::heater);
        Checks.due("the heaters", hire.number(5), 4);
        Checks.due("the gas of heater 3", hire.heaterOf(3, true), 20);
        Checks.fails("heaterOf(4)", IndexOutOfBoundsException.class, () -> hire.heaterOf(4, true));
    }

    private static void leastAndMostGas() {
        TubHire hire = Checks.withTubOut(3, 0);
        hire.heater();
        hire.heat(0, 0);
        Checks.due("gas(0, 8)", hire.gas(0, 8), 60);
        Checks.due("gas(0, 1) at 60", hire.gas(0, 1), 60);
        hire.undo();
        hire.undo();
        hire.pass(48);
        Checks.due("the gas after 48 hours", hire.heaterOf(0, true), 0);
        hire.pass(3);
        Checks.due("the gas after 51 hours", hire.heaterOf(0, true), 0);
        Checks.due("gas(0, 1) at 0", hire.gas(0, 1), 5);
    }

    private static void gasAtFirst() {
        TubHire hire = new TubHire();
        for (int heater = 0; heater < 4; heater++) {
            hire.heater();
            Checks.due("the gas of a new heater", hire.heaterOf(heater, true), 20);
            hire.gas(heater, 1);
        }
        hire.undo();
        hire.undo();
        hire.heater();
        Checks.due("the gas of a heater in place of one that was undone", hire.heaterOf(3, true), 20);
    }

    private static void heatersAreStoredAtFirst() {
        TubHire hire = Checks.withTubs(4);
        hire.tent(0);
        for (int heater = 0; heater < 4; heater++) {
            Checks.due("the tent of a new heater", hire.heaterOf(heater, false), -1);
        }
        hire.heat(3, 4);
        hire.heat(2, 0);
        Checks.due("the tent of heater 3", hire.heaterOf(3, false), 4);
        Checks.due("the tent of heater 2", hire.heaterOf(2, false), 0);
    }

    private static void twelveTowels() {
        TubHire hire = new TubHire();
        Checks.due("the clean towels at first", hire.number(7), 12);
        Checks.due("the used towels at first", hire.number(8), 0);
        TubHire full = Checks.withoutTowels();
        full.out(2, 2);
        Checks.due("the clean towels with 12 guests", full.number(7), 0);
        Checks.due("those who wait", full.number(9), 12);
        Checks.refused(full, "a thirteenth guest", 10, 0, () -> full.join(2));
        full.pass(5);
        Checks.due("the used towels after a bath", full.number(8), 1);
        Checks.due("the clean towels after a bath", full.number(7), 0);
    }

    private static void leastAndMostSoap() {
        TubHire hire = Checks.withTubOut(1, 0);
        hire.heater();
        hire.heat(0, 0);
        Checks.takeBaths(hire, 0, 10);
        Checks.due("the soap after 10 baths", hire.number(12), 0);
        hire.back(0);
        hire.out(0, 0);
        hire.gas(0, 4);
        hire.join(0);
        Checks.due("the baths without soap", hire.pass(6), 0);
        Checks.due("the soap then", hire.number(12), 0);
        TubHire rich = rich(92);
        for (int i = 0; i < 4; i++) {
            rich.soap(20);
        }
        Checks.due("soap(9)", rich.soap(9), 99);
        Checks.due("soap(1)", rich.soap(1), 99);
    }

    private static void soapAtFirst() {
        TubHire hire = new TubHire();
        Checks.due("the soap", hire.number(12), 10);
        Checks.due("soap(1)", hire.soap(1), 11);
    }

    /** A hirer with some coins, up to 200, the tub 0 of size 3 in the store, and the tent 0. */
    static TubHire rich(int coins) {
        TubHire hire = new TubHire();
        hire.tub(3);
        hire.tent(0);
        for (int i = 0; i < 34 && hire.number(13) < coins; i++) {
            hire.out(0, 0);
            hire.back(0);
        }
        int over = hire.number(13) - coins;
        hire.heater();
        for (int i = 0; i < over; i++) {
            hire.gas(0, 1);
        }
        Checks.due("the coins to begin with", hire.number(13), coins);
        return hire;
    }

    private static void guestsAreNumbered() {
        TubHire hire = Checks.withTubOut(1, 0);
        for (int guest = 0; guest < 6; guest++) {
            Checks.due("guest " + guest, hire.join(0), guest);
        }
        Checks.refused(hire, "a seventh guest", 1, 6, () -> hire.join(0));
        hire.undo();
        Checks.due("the guest in place of one that was undone", hire.join(0), 5);
    }

    private static void lastCleanTowel() {
        TubHire hire = Checks.withoutTowels();
        hire.out(2, 2);
        hire.undo();
        hire.undo();
        Checks.due("the clean towels before", hire.number(7), 1);
        Checks.due("the used towels before", hire.number(8), 0);
        Checks.due("join(1)", hire.join(1), 11);
        Checks.due("who waits at last", hire.waiting(1, 5), 11);
        Checks.due("the clean towels", hire.number(7), 0);
        Checks.due("the used towels", hire.number(8), 0);
    }

    private static void sixWait() {
        TubHire hire = Checks.withTubs(2);
        hire.out(0, 0);
        hire.out(1, 1);
        for (int place = 0; place < 6; place++) {
            hire.join(0);
            Checks.due("who waits", hire.tentOf(0, 3), place + 1);
            Checks.due("the guest at place " + place, hire.waiting(0, place), place);
        }
        Checks.refused(hire, "a seventh guest", 1, 6, () -> hire.join(0));
        Checks.due("who waits then", hire.tentOf(0, 3), 6);
        Checks.due("a guest of another tent", hire.join(1), 6);
    }

    private static void tenCoins() {
        TubHire hire = new TubHire();
        Checks.due("the coins", hire.number(13), 10);
        Checks.refused(hire, "soap(11)", 12, 1, () -> hire.soap(11));
        Checks.due("soap(10)", hire.soap(10), 20);
        Checks.due("the coins then", hire.number(13), 0);
    }

    private static void tentsPay() {
        for (int size = 1; size <= 3; size++) {
            TubHire hire = new TubHire();
            hire.tub(size);
            hire.tent(9);
            hire.soap(10);
            Checks.due("out of a tub of size " + size, hire.out(0, 0), 2 * size);
            hire.back(0);
            Checks.due("the coins when it is back", hire.number(13), 2 * size);
            Checks.due("out once more", hire.out(0, 0), 4 * size);
        }
    }

    private static void mendingCosts() {
        TubHire hire = new TubHire();
        hire.tub(1);
        for (int seam = 0; seam < 8; seam++) {
            hire.tear(0, seam);
        }
        for (int seam = 0; seam < 5; seam++) {
            Checks.due("mend(0, " + seam + ")", hire.mend(0, seam), 7 - seam);
            Checks.due("the coins", hire.number(13), 8 - 2 * seam);
        }
        Checks.refused(hire, "mend(0, 5) without coins", 12, 2, () -> hire.mend(0, 5));
        hire.undo();
        hire.soap(1);
        Checks.refused(hire, "mend(0, 5) with 1 coin", 12, 1, () -> hire.mend(0, 5));
    }

    private static void washingCosts() {
        TubHire hire = Checks.withDirtyTub(1, 0);
        hire.soap(15);
        Checks.due("the coins before", hire.number(13), 1);
        Checks.due("wash(1) with 1 coin", hire.wash(1), 1);
        Checks.due("the coins", hire.number(13), 0);
        hire.undo();
        hire.soap(1);
        Checks.refused(hire, "wash(1) without coins", 12, 1, () -> hire.wash(1));
    }

    private static void soapCosts() {
        TubHire hire = new TubHire();
        hire.soap(9);
        Checks.due("soap(1) with 1 coin", hire.soap(1), 20);
        Checks.due("the coins", hire.number(13), 0);
        Checks.refused(hire, "soap(1) without coins", 12, 1, () -> hire.soap(1));
    }

    private static void gasCosts() {
        TubHire hire = new TubHire();
        hire.heater();
        hire.soap(7);
        Checks.due("gas(0, 3) with 3 coins", hire.gas(0, 3), 35);
        Checks.due("the coins", hire.number(13), 0);
        Checks.refused(hire, "gas(0, 1) without coins", 12, 1, () -> hire.gas(0, 1));
    }
}
