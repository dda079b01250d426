import java.util.NoSuchElementException;

/** The sentences of promises 10 to 18 that name a boundary case. */
final class TentSentences {
    private TentSentences() {
    }

    static void test(Sentences document) {
        document.holds(10, "Throws IllegalArgumentException if the slope is out of range",
                TentSentences::slopeOutOfRange);
        document.holds(10, "Throws UnsupportedOperationException if it is refused, for the reason 1",
                TentSentences::sixthTent);
        document.holds(11, "1 its tub, -1 without one;", TentSentences::tubOfTent);
        document.holds(11, "2 its heater, -1 without one;", TentSentences::heaterOfTent);
        document.holds(11, "3 the guests who wait;", TentSentences::guestsOfTent);
        document.holds(11, "4 those who bathed there so far", TentSentences::bathedInTent);
        document.holds(11, "Throws IndexOutOfBoundsException if there is no such tent", TentSentences::tentOfNoTent);
        document.holds(11, "Throws IllegalArgumentException if what is out of range", TentSentences::tentOfOutOfRange);
        document.holds(12, "place: the place in its queue, from 0", TentSentences::places);
        document.holds(12, "Throws IndexOutOfBoundsException if there is no such tent",
                TentSentences::waitingInNoTent);
        document.holds(12, "Throws NoSuchElementException if there is no such place", TentSentences::noSuchPlace);
        document.holds(13, "Returns the number of the guest.", TentSentences::numberOfGuest);
        document.holds(13, "Throws IndexOutOfBoundsException if there is no such tent", TentSentences::joinsNoTent);
        document.holds(13, "Throws UnsupportedOperationException if it is refused, for the reason 1, with 6 if 6 wait"
                + " there, 6 or 10", TentSentences::refusedJoin);
        document.holds(14, "Throws UnsupportedOperationException if it is refused, for the reason 1",
                TentSentences::fifthHeater);
        document.holds(15, "isGas: whether its gas is told, or else its tent, -1 in the store",
                TentSentences::tentOfHeater);
        document.holds(15, "Throws IndexOutOfBoundsException if there is no such heater",
                TentSentences::heaterOfNoHeater);
        document.holds(16, "Returns its gas.", TentSentences::gasOfHeat);
        document.holds(16, "Throws IndexOutOfBoundsException if there is no such heater or tent",
                TentSentences::heatOfNone);
        document.holds(16, "Throws UnsupportedOperationException if it is refused, for the reason 7 or 8",
                TentSentences::refusedHeat);
        document.holds(17, "Returns the tent where it was.", TentSentences::tentWhereItWas);
        document.holds(17, "Throws IndexOutOfBoundsException if there is no such heater", TentSentences::coldOfNone);
        document.holds(17, "Throws UnsupportedOperationException if it is refused, for the reason 9",
                TentSentences::coldInStore);
        document.holds(18, "5 for each coin; what would be more than 60 is lost.", TentSentences::gasUpTo60);
        document.holds(18, "coins: for how many coins, from 1 to 12", TentSentences::coinsForGas);
        document.holds(18, "Throws IndexOutOfBoundsException if there is no such heater", TentSentences::gasOfNone);
        document.holds(18, "Throws IllegalArgumentException if the number is out of range",
                TentSentences::gasOutOfRange);
        document.holds(18, "Throws UnsupportedOperationException if it is refused, for the reason 12",
                TentSentences::gasIsTooDear);
    }

    private static void slopeOutOfRange() {
        TubHire hire = new TubHire();
        for (int slope : new int[] {-1, 10, Integer.MIN_VALUE, Integer.MAX_VALUE}) {
            Checks.fails("tent(" + slope + ")", IllegalArgumentException.class, () -> hire.tent(slope));
        }
        Checks.due("the tents", hire.number(4), 0);
        Checks.due("tent(0)", hire.tent(0), 0);
        Checks.due("tent(9)", hire.tent(9), 1);
    }

    private static void sixthTent() {
        TubHire hire = new TubHire();
        for (int tent = 0; tent < 5; tent++) {
            Checks.due("tent(" + tent + ")", hire.tent(tent), tent);
        }
        Checks.refused(hire, "a sixth tent", 1, 5, () -> hire.tent(0));
        hire.undo();
        Checks.due("a fifth tent again", hire.tent(9), 4);
        Checks.due("its slope", hire.tentOf(4, 0), 9);
    }

    private static void tubOfTent() {
        TubHire hire = Checks.withTubs(2);
        Checks.due("the tub at first", hire.tentOf(0, 1), -1);
        hire.out(0, 1);
        Checks.due("the tub of tent 1", hire.tentOf(1, 1), 0);
        Checks.due("the tub of tent 0", hire.tentOf(0, 1), -1);
        hire.back(0);
        Checks.due("the tub of tent 1 when it is back", hire.tentOf(1, 1), -1);
    }

    private static void heaterOfTent() {
        TubHire hire = Checks.withTubs(2);
        Checks.due("the heater at first", hire.tentOf(0, 2), -1);
        hire.heat(0, 1);
        Checks.due("the heater of tent 1", hire.tentOf(1, 2), 0);
        Checks.due("the heater of tent 0", hire.tentOf(0, 2), -1);
        hire.cold(0);
        Checks.due("the heater of tent 1 when it is back", hire.tentOf(1, 2), -1);
    }

    private static void guestsOfTent() {
        TubHire hire = Checks.withTubs(2);
        hire.out(0, 0);
        Checks.due("the guests at first", hire.tentOf(0, 3), 0);
        for (int guests = 1; guests <= 6; guests++) {
            hire.join(0);
            Checks.due("the guests", hire.tentOf(0, 3), guests);
        }
        Checks.due("the guests of tent 1", hire.tentOf(1, 3), 0);
    }

    private static void bathedInTent() {
        TubHire hire = Checks.withTubs(2);
        hire.out(0, 0);
        hire.heat(0, 0);
        Checks.due("who bathed at first", hire.tentOf(0, 4), 0);
        Checks.takeBaths(hire, 0, 2);
        Checks.due("who bathed in tent 0", hire.tentOf(0, 4), 2);
        hire.back(0);
        hire.out(1, 0);
        Checks.takeBaths(hire, 1, 1);
        Checks.due("who bathed in tent 0 in two tubs", hire.tentOf(0, 4), 3);
        Checks.due("who bathed in tent 1", hire.tentOf(1, 4), 0);
    }

    private static void tentOfNoTent() {
        TubHire hire = Checks.withTubs(2);
        for (int wrong : new int[] {-1, 2, 5, Integer.MIN_VALUE, Integer.MAX_VALUE}) {
            Checks.fails("tentOf(" + wrong + ", 0)", IndexOutOfBoundsException.class, () -> hire.tentOf(wrong, 0));
            Checks.fails("tentOf(" + wrong + ", 5)", IndexOutOfBoundsException.class, () -> hire.tentOf(wrong, 5));
        }
        Checks.due("tentOf(1, 0)", hire.tentOf(1, 0), 0);
    }

    private static void tentOfOutOfRange() {
        TubHire hire = Checks.withTubs(1);
        for (int what : new int[] {-1, 5, Integer.MIN_VALUE, Integer.MAX_VALUE}) {
            Checks.fails("tentOf(0, " + what + ")", IllegalArgumentException.class, () -> hire.tentOf(0, what));
        }
        Checks.due("tentOf(0, 0)", hire.tentOf(0, 0), 0);
        Checks.due("tentOf(0, 4)", hire.tentOf(0, 4), 0);
    }

    private static void places() {
        TubHire hire = Checks.withTubs(2);
        hire.out(0, 0);
        hire.out(1, 1);
        hire.heat(0, 1);
        for (int i = 0; i < 6; i++) {
            hire.join(0);
            hire.join(1);
        }
        for (int place = 0; place < 6; place++) {
            Checks.due("waiting(0, " + place + ")", hire.waiting(0, place), 2 * place);
            Checks.due("waiting(1, " + place + ")", hire.waiting(1, place), 2 * place + 1);
        }
        hire.pass(5);
        for (int place = 0; place < 5; place++) {
            Checks.due("waiting(1, " + place + ") after a bath", hire.waiting(1, place), 2 * place + 3);
        }
    }

    private static void waitingInNoTent() {
        TubHire hire = Checks.withTubs(1);
        hire.out(0, 0);
        hire.join(0);
        for (int wrong : new int[] {-1, 1, 5, Integer.MIN_VALUE, Integer.MAX_VALUE}) {
            Checks.fails("waiting(" + wrong + ", 0)", IndexOutOfBoundsException.class, () -> hire.waiting(wrong, 0));
        }
        Checks.due("waiting(0, 0)", hire.waiting(0, 0), 0);
    }

    private static void noSuchPlace() {
        TubHire hire = Checks.withTubOut(1, 0);
        hire.heater();
        hire.heat(0, 0);
        Checks.fails("waiting(0, 0) in an empty queue", NoSuchElementException.class, () -> hire.waiting(0, 0));
        for (int i = 0; i < 6; i++) {
            hire.join(0);
        }
        for (int wrong : new int[] {-1, 6, 7, Integer.MIN_VALUE, Integer.MAX_VALUE}) {
            Checks.fails("waiting(0, " + wrong + ")", NoSuchElementException.class, () -> hire.waiting(0, wrong));
        }
        Checks.due("waiting(0, 5)", hire.waiting(0, 5), 5);
        hire.pass(5);
        Checks.fails("waiting(0, 5) after a bath", NoSuchElementException.class, () -> hire.waiting(0, 5));
        Checks.due("waiting(0, 4) after a bath", hire.waiting(0, 4), 5);
    }

    private static void numberOfGuest() {
        TubHire hire = Checks.withDirtyTub(1, 9);
        for (int guest = 1; guest <= 6; guest++) {
            Checks.due("guest " + guest, hire.join(0), guest);
        }
        Checks.due("the guests who came", hire.number(10), 7);
    }

    private static void joinsNoTent() {
        TubHire hire = Checks.withTubs(1);
        hire.out(0, 0);
        for (int wrong : new int[] {-1, 1, 5, Integer.MIN_VALUE, Integer.MAX_VALUE}) {
            Checks.fails("join(" + wrong + ")", IndexOutOfBoundsException.class, () -> hire.join(wrong));
        }
        Checks.due("the guests who came", hire.number(10), 0);
    }

    private static void refusedJoin() {
        TubHire hire = Checks.withoutTowels();
        Checks.refused(hire, "join(0) where 6 wait", 1, 6, () -> hire.join(0));
        Checks.refused(hire, "join(2) without a tub", 6, 2, () -> hire.join(2));
        hire.out(2, 2);
        Checks.refused(hire, "join(2) without a towel", 10, 0, () -> hire.join(2));
        Checks.due("the guests who came", hire.number(10), 12);
        hire.pass(5);
        hire.wash(1);
        Checks.due("join(0) where 5 wait", hire.join(0), 12);
        Checks.refused(hire, "join(0) where 6 wait again", 1, 6, () -> hire.join(0));
    }

    private static void fifthHeater() {
        TubHire hire = new TubHire();
        for (int heater = 0; heater < 4; heater++) {
            Checks.due("heater()", hire.heater(), heater);
        }
        Checks.refused(hire, "a fifth heater", 1, 4, hire::heater);
        hire.undo();
        Checks.due("a fourth heater again", hire.heater(), 3);
    }

    private static void tentOfHeater() {
        TubHire hire = Checks.withTubs(2);
        Checks.due("the tent at first", hire.heaterOf(0, false), -1);
        hire.heat(1, 0);
        Checks.due("the tent of heater 1", hire.heaterOf(1, false), 0);
        Checks.due("the gas of heater 1", hire.heaterOf(1, true), 20);
        Checks.due("the tent of heater 0", hire.heaterOf(0, false), -1);
        hire.cold(1);
        Checks.due("the tent of heater 1 when it is back", hire.heaterOf(1, false), -1);
    }

    private static void heaterOfNoHeater() {
        TubHire hire = Checks.withTubs(2);
        for (int wrong : new int[] {-1, 2, 4, Integer.MIN_VALUE, Integer.MAX_VALUE}) {
            Checks.fails("the gas of heater " + wrong, IndexOutOfBoundsException.class,
                    () -> hire.heaterOf(wrong, true));
            Checks.fails("the tent of heater " + wrong, IndexOutOfBoundsException.class,
                    () -> hire.heaterOf(wrong, false));
        }
        Checks.due("the gas of heater 1", hire.heaterOf(1, true), 20);
    }

    private static void gasOfHeat() {
        TubHire hire = Checks.withTubs(2);
        hire.gas(1, 8);
        Checks.due("heat(0, 0)", hire.heat(0, 0), 20);
        Checks.due("heat(1, 1)", hire.heat(1, 1), 60);
        hire.out(0, 0);
        hire.pass(48);
        hire.cold(0);
        Checks.due("heat(0, 0) without gas", hire.heat(0, 0), 0);
    }

    private static void heatOfNone() {
        TubHire hire = Checks.withTubs(2);
        for (int wrong : new int[] {-1, 2, 4, 5, Integer.MIN_VALUE, Integer.MAX_VALUE}) {
            Checks.fails("heat(0, " + wrong + ")", IndexOutOfBoundsException.class, () -> hire.heat(0, wrong));
            Checks.fails("heat(" + wrong + ", 0)", IndexOutOfBoundsException.class, () -> hire.heat(wrong, 0));
        }
        Checks.due("the tent of heater 0", hire.heaterOf(0, false), -1);
        Checks.due("heat(1, 1)", hire.heat(1, 1), 20);
    }

    private static void refusedHeat() {
        TubHire hire = Checks.withTubs(3);
        hire.heat(0, 1);
        Checks.refused(hire, "heat(0, 2)", 7, 1, () -> hire.heat(0, 2));
        Checks.refused(hire, "heat(1, 1)", 8, 0, () -> hire.heat(1, 1));
        Checks.due("the tent of heater 1", hire.heaterOf(1, false), -1);
        Checks.due("the heater of tent 2", hire.tentOf(2, 2), -1);
    }

    private static void tentWhereItWas() {
        TubHire hire = Checks.withTubs(2);
        hire.tent(0);
        hire.heat(1, 0);
        hire.heat(0, 2);
        Checks.due("cold(1)", hire.cold(1), 0);
        Checks.due("cold(0)", hire.cold(0), 2);
    }

    private static void coldOfNone() {
        TubHire hire = Checks.withTubs(1);
        hire.heat(0, 0);
        for (int wrong : new int[] {-1, 1, 4, Integer.MIN_VALUE, Integer.MAX_VALUE}) {
            Checks.fails("cold(" + wrong + ")", IndexOutOfBoundsException.class, () -> hire.cold(wrong));
        }
        Checks.due("the tent of heater 0", hire.heaterOf(0, false), 0);
    }

    private static void coldInStore() {
        TubHire hire = Checks.withTubs(2);
        Checks.refused(hire, "cold(1)", 9, 1, () -> hire.cold(1));
        hire.heat(0, 0);
        hire.cold(0);
        Checks.refused(hire, "cold(0) once more", 9, 0, () -> hire.cold(0));
    }

    private static void gasUpTo60() {
        TubHire hire = ThingsSentences.rich(40);
        int gas = hire.heaterOf(0, true);
        Checks.due("gas(0, 1)", hire.gas(0, 1), gas + 5);
        for (int i = 0; i < 12 && hire.heaterOf(0, true) < 55; i++) {
            hire.gas(0, 1);
        }
        Checks.due("gas(0, 1) from 55 on", hire.gas(0, 1), 60);
        hire.undo();
        Checks.due("gas(0, 2) from 55 on", hire.gas(0, 2), 60);
        Checks.due("gas(0, 12) from 60 on", hire.gas(0, 12), 60);
        TubHire used = Checks.withTubOut(1, 0);
        used.heater();
        used.heat(0, 0);
        used.pass(2);
        Checks.due("gas(0, 8) from 19 on", used.gas(0, 8), 59);
        Checks.due("gas(0, 1) from 59 on", used.gas(0, 1), 60);
    }

    private static void coinsForGas() {
        TubHire hire = ThingsSentences.rich(100);
        hire.heater();
        hire.heater();
        Checks.due("gas(1, 1)", hire.gas(1, 1), 25);
        Checks.due("the coins then", hire.number(13), 99);
        Checks.due("gas(2, 12)", hire.gas(2, 12), 60);
        Checks.due("the coins after that", hire.number(13), 87);
    }

    private static void gasOfNone() {
        TubHire hire = Checks.withTubs(1);
        for (int wrong : new int[] {-1, 1, 4, Integer.MIN_VALUE, Integer.MAX_VALUE}) {
            Checks.fails("gas(" + wrong + ", 1)", IndexOutOfBoundsException.class, () -> hire.gas(wrong, 1));
            Checks.fails("gas(" + wrong + ", 0)", IndexOutOfBoundsException.class, () -> hire.gas(wrong, 0));
        }
        Checks.due("the coins", hire.number(13), 10);
    }

    private static void gasOutOfRange() {
        TubHire hire = ThingsSentences.rich(100);
        int gas = hire.heaterOf(0, true);
        for (int coins : new int[] {0, 13, -1, Integer.MIN_VALUE, Integer.MAX_VALUE}) {
            Checks.fails("gas(0, " + coins + ")", IllegalArgumentException.class, () -> hire.gas(0, coins));
        }
        Checks.due("the gas", hire.heaterOf(0, true), gas);
        Checks.due("the coins", hire.number(13), 100);
    }

    private static void gasIsTooDear() {
        TubHire hire = new TubHire();
        hire.heater();
        Checks.refused(hire, "gas(0, 11) with 10 coins", 12, 1, () -> hire.gas(0, 11));
        Checks.due("the gas", hire.heaterOf(0, true), 20);
        Checks.due("gas(0, 10) with 10 coins", hire.gas(0, 10), 60);
        Checks.refused(hire, "gas(0, 1) without coins", 12, 1, () -> hire.gas(0, 1));
    }
}
