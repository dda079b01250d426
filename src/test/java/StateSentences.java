import java.util.NoSuchElementException;

/** The sentences of "Terms" on undo and on exceptions. */
final class StateSentences {
    /** A call on a hirer. */
    private interface CallOn {
        void run(TubHire hire);
    }

    private StateSentences() {
    }

    static void test(Sentences document) {
        document.holds(0, "The changes are the successful calls of tub, tent, heater, out, back, heat, cold, join, tear,"
                + " mend, wash, soap, gas, pass and read,", StateSentences::changes);
        document.holds(0, "also if nothing is different then.", StateSentences::changesOfNothing);
        document.holds(0, "The latest 8 can be undone;", StateSentences::latest8);
        document.holds(0, "what was forgotten stays forgotten.", StateSentences::staysForgotten);
        document.holds(0, "A method that throws an exception leaves the state unchanged unless its documentation says"
                + " otherwise.", StateSentences::failuresChangeNothing);
        document.holds(0, "If several exceptions apply, the one that is documented first is thrown.",
                StateSentences::firstException);
        document.holds(0, "The input, the line, the fault position and the refusal are neither undone nor saved, and"
                + " stay.", StateSentences::whatStays);
    }

    /** A hirer of whom every method can succeed and be refused, and who can undo 3 changes. */
    private static TubHire busy() {
        TubHire hire = Checks.withDirtyTub(1, 9);
        hire.tub(2);
        hire.tent(3);
        hire.heater();
        hire.tear(1, 2);
        hire.saveSnapshot();
        hire.restoreSnapshot();
        hire.join(0);
        hire.join(0);
        hire.pass(1);
        return hire;
    }

    private static void changes() {
        CallOn[] calls = {hire -> hire.tub(1), hire -> hire.tent(0), TubHire::heater, hire -> hire.back(0),
            hire -> hire.heat(1, 1), hire -> hire.cold(0), hire -> hire.join(0), hire -> hire.tear(0, 1),
            hire -> hire.mend(1, 2), hire -> hire.wash(1), hire -> hire.soap(1), hire -> hire.gas(0, 1),
            hire -> hire.pass(1), StateSentences::readsAnHour, StateSentences::goesOut};
        for (int i = 0; i < calls.length; i++) {
            TubHire hire = busy();
            String before = Checks.state(hire);
            calls[i].run(hire);
            int more = i == calls.length - 1 ? 5 : 4;
            Checks.due("the changes after change " + i, hire.number(15), more);
            Checks.due("undo() of change " + i, hire.undo(), more - 1);
            if (more == 5) {
                hire.undo();
            }
            Checks.due("the state after undo of change " + i, Checks.state(hire), before);
        }
        whatIsNoChange();
    }

    private static void readsAnHour(TubHire hire) {
        Checks.feed(hire, "hours 1;cold 0;hours 1");
        hire.read();
    }

    private static void goesOut(TubHire hire) {
        hire.back(0);
        hire.out(0, 1);
    }

    private static void whatIsNoChange() {
        TubHire hire = busy();
        hire.tubOf(0, 0);
        hire.torn(1, 0);
        hire.tentOf(0, 0);
        hire.waiting(0, 0);
        hire.heaterOf(0, true);
        hire.heatsIn(1, 10);
        hire.heatsAgain(1, 10);
        hire.bathesIn(1);
        hire.line(0);
        hire.character(0);
        hire.towels();
        hire.bathedShare();
        hire.feed('a');
        hire.saveSnapshot();
        Checks.due("the changes after calls that are none", hire.number(15), 3);
    }

    private static void changesOfNothing() {
        TubHire hire = Checks.withTubs(1);
        hire.tear(0, 3);
        Checks.due("the changes before", hire.number(15), 4);
        Checks.due("tear(0, 3) once more", hire.tear(0, 3), 1);
        Checks.due("the changes then", hire.number(15), 5);
        Checks.due("undo()", hire.undo(), 4);
        Checks.due("the seams after it", hire.tubOf(0, 2), 8);
        TubHire rich = ThingsSentences.rich(100);
        for (int i = 0; i < 5; i++) {
            rich.soap(20);
        }
        rich.saveSnapshot();
        rich.restoreSnapshot();
        Checks.due("soap(20) at 99", rich.soap(20), 99);
        Checks.due("the coins then", rich.number(13), 11);
        Checks.due("the changes after soap(20) at 99", rich.number(15), 1);
        Checks.feed(rich, "soap 1");
        Checks.due("read() of soap at 99", rich.read(), 1);
        Checks.due("the changes after read()", rich.number(15), 2);
        Checks.due("undo() of read()", rich.undo(), 1);
        Checks.due("undo() of soap(20)", rich.undo(), 0);
    }

    private static void latest8() {
        TubHire hire = new TubHire();
        for (int i = 1; i <= 30; i++) {
            hire.pass(1);
            Checks.due("the changes after " + i, hire.number(15), Math.min(8, i));
        }
        Checks.refused(hire, "wash(1), which is no change", 13, 0, () -> hire.wash(1));
        Checks.feed(hire, "hours 1;wash 1");
        Checks.refused(hire, "read(), which is no change", 13, 0, hire::read);
        for (int i = 7; i >= 0; i--) {
            Checks.due("undo()", hire.undo(), i);
            Checks.due("the hour after it", hire.number(0), 22 + i);
        }
        Checks.fails("a ninth undo()", IllegalStateException.class, hire::undo);
        Checks.due("the hour at the end", hire.number(0), 22);
    }

    private static void staysForgotten() {
        TubHire hire = new TubHire();
        for (int i = 0; i < 9; i++) {
            hire.pass(1);
        }
        for (int i = 0; i < 8; i++) {
            hire.undo();
        }
        Checks.fails("undo() of the first", IllegalStateException.class, hire::undo);
        hire.pass(2);
        Checks.due("undo() of a later one", hire.undo(), 0);
        Checks.fails("undo() of the first, still", IllegalStateException.class, hire::undo);
        Checks.due("the hour", hire.number(0), 1);
        hire.saveSnapshot();
        hire.pass(3);
        hire.restoreSnapshot();
        Checks.fails("undo() after restoreSnapshot()", IllegalStateException.class, hire::undo);
        hire.pass(4);
        hire.undo();
        Checks.fails("undo() after restoreSnapshot(), still", IllegalStateException.class, hire::undo);
        Checks.due("the hour at the end", hire.number(0), 1);
    }

    private static void failuresChangeNothing() {
        CallOn[] failing = {hire -> hire.tub(0), hire -> hire.tubOf(9, 0), hire -> hire.tubOf(0, 9),
            hire -> hire.torn(9, 0), hire -> hire.torn(0, 0), hire -> hire.tear(9, 0), hire -> hire.tear(0, 9),
            hire -> hire.mend(9, 0), hire -> hire.mend(0, 0), hire -> hire.out(9, 0), hire -> hire.out(0, 1),
            hire -> hire.out(1, 1), hire -> hire.back(9), hire -> hire.back(1), hire -> hire.tent(10),
            hire -> hire.tentOf(9, 0), hire -> hire.tentOf(0, 9), hire -> hire.waiting(9, 0),
            hire -> hire.waiting(0, 9), hire -> hire.join(9), hire -> hire.join(1), hire -> hire.heaterOf(9, true),
            hire -> hire.heat(9, 0), hire -> hire.heat(0, 1), hire -> hire.heat(1, 0), hire -> hire.cold(9),
            hire -> hire.cold(1), hire -> hire.gas(9, 1), hire -> hire.gas(0, 13), hire -> hire.wash(0),
            hire -> hire.soap(21), hire -> hire.soap(20), hire -> hire.pass(0), hire -> hire.pass(49),
            hire -> hire.heatsIn(0, 10), hire -> hire.heatsAgain(1, 61), hire -> hire.bathesIn(0),
            hire -> hire.line(9), hire -> hire.character(99), hire -> hire.number(17), hire -> hire.number(-1),
            TubHire::faultPosition, hire -> hire.refusal(true), TubHire::bestTub, TubHire::meanWarmth};
        for (int i = 0; i < failing.length; i++) {
            dueUnchanged("failing call " + i, busy(), failing[i]);
        }
        CallOn[] tooDear = {hire -> hire.mend(1, 2), hire -> hire.gas(0, 1), hire -> hire.wash(1), hire -> hire.soap(1)};
        for (int i = 0; i < tooDear.length; i++) {
            TubHire hire = busy();
            hire.soap(16);
            dueUnchanged("call " + i + " without coins", hire, tooDear[i]);
        }
        refusedReadsChangeNothing();
        manyChangeNothing();
    }

    private static void dueUnchanged(String what, TubHire hire, CallOn failing) {
        hire.feed('?');
        hire.line(0);
        String before = Checks.state(hire);
        int changes = hire.number(15);
        Checks.due(what + " throws", fails(hire, failing), true);
        Checks.due("the state after " + what, Checks.state(hire), before);
        Checks.due("the input after " + what, hire.number(16), 1);
        Checks.due("the line after " + what, hire.character(0), '0');
        Checks.due("undo() after " + what, hire.undo(), changes - 1);
    }

    private static boolean fails(TubHire hire, CallOn failing) {
        try {
            failing.run(hire);
            return false;
        } catch (RuntimeException e) {
            return true;
        }
    }

    private static void refusedReadsChangeNothing() {
        TubHire hire = busy();
        String before = Checks.state(hire);
        Checks.feed(hire, "back 0;hours 30;soap 5;wash 1;cold 0;out 0 1;cold 0");
        Checks.refused(hire, "read()", 9, 0, hire::read);
        Checks.due("the state after a refused text", Checks.state(hire), before);
        Checks.feed(hire, "back 0;hours 30;soap 5;wash 1;cold 0;out 0 1;");
        Checks.fails("read()", IllegalArgumentException.class, hire::read);
        Checks.due("the state after no text", Checks.state(hire), before);
        Checks.due("undo() then", hire.undo(), 2);
    }

    /** What fails where there are as many as there can be. */
    private static void manyChangeNothing() {
        TubHire hire = new TubHire();
        for (int i = 0; i < 8; i++) {
            hire.tub(1);
        }
        for (int i = 0; i < 5; i++) {
            hire.tent(i);
        }
        for (int i = 0; i < 4; i++) {
            hire.heater();
        }
        hire.out(7, 0);
        for (int i = 0; i < 6; i++) {
            hire.join(0);
        }
        String before = Checks.state(hire);
        Checks.refused(hire, "tub(1)", 1, 8, () -> hire.tub(1));
        Checks.refused(hire, "tent(1)", 1, 5, () -> hire.tent(1));
        Checks.refused(hire, "heater()", 1, 4, hire::heater);
        Checks.refused(hire, "join(0)", 1, 6, () -> hire.join(0));
        Checks.due("the state", Checks.state(hire), before);
    }

    private static void firstException() {
        TubHire hire = Checks.withoutTowels();
        hire.tent(0);
        for (int i = 0; i < 4; i++) {
            hire.tub(1);
        }
        hire.soap(14);
        Checks.due("the coins", hire.number(13), 0);
        Checks.fails("tub(4) of 8 tubs", IllegalArgumentException.class, () -> hire.tub(4));
        Checks.fails("tubOf(8, 7)", IndexOutOfBoundsException.class, () -> hire.tubOf(8, 7));
        Checks.fails("torn(8, 0)", IndexOutOfBoundsException.class, () -> hire.torn(8, 0));
        Checks.fails("torn(0, 8) of a whole tub", IndexOutOfBoundsException.class, () -> hire.torn(0, 8));
        Checks.fails("mend(0, 8) of a whole seam", IndexOutOfBoundsException.class, () -> hire.mend(0, 8));
        Checks.fails("mend(0, -1) of a whole seam", IndexOutOfBoundsException.class, () -> hire.mend(0, -1));
        Checks.fails("out(0, 5) of a tub in a tent", IndexOutOfBoundsException.class, () -> hire.out(0, 5));
        Checks.fails("out(8, 0) to a tent with a tub", IndexOutOfBoundsException.class, () -> hire.out(8, 0));
        Checks.fails("tent(10) of 5 tents", IllegalArgumentException.class, () -> hire.tent(10));
        Checks.fails("tentOf(5, 5)", IndexOutOfBoundsException.class, () -> hire.tentOf(5, 5));
        Checks.fails("waiting(5, 9)", IndexOutOfBoundsException.class, () -> hire.waiting(5, 9));
        Checks.fails("join(5) without towels", IndexOutOfBoundsException.class, () -> hire.join(5));
        Checks.fails("heat(0, 5) of a heater in a tent", IndexOutOfBoundsException.class, () -> hire.heat(0, 5));
        Checks.fails("heat(4, 0) to a tent with one", IndexOutOfBoundsException.class, () -> hire.heat(4, 0));
        Checks.fails("gas(4, 0)", IndexOutOfBoundsException.class, () -> hire.gas(4, 0));
        Checks.fails("gas(4, 12) without coins", IndexOutOfBoundsException.class, () -> hire.gas(4, 12));
        Checks.fails("gas(0, 13) without coins", IllegalArgumentException.class, () -> hire.gas(0, 13));
        Checks.fails("wash(21) of no towels", IllegalArgumentException.class, () -> hire.wash(21));
        Checks.fails("soap(21) without coins", IllegalArgumentException.class, () -> hire.soap(21));
        Checks.feed(hire, "back 7;x");
        Checks.fails("read() of what is no text and refused", IllegalArgumentException.class, hire::read);
        Checks.fails("a refusal after all that", NoSuchElementException.class, () -> hire.refusal(true));
    }

    private static void whatStays() {
        TubHire hire = Checks.withTubs(1);
        hire.saveSnapshot();
        hire.out(0, 0);
        Checks.feed(hire, "out 0");
        Checks.fails("read()", IllegalArgumentException.class, hire::read);
        Checks.refused(hire, "out(0, 0)", 2, 0, () -> hire.out(0, 0));
        Checks.feed(hire, "back 0");
        hire.line(0);
        dueToStay(hire, "at first");
        hire.undo();
        dueToStay(hire, "after undo()");
        hire.saveSnapshot();
        dueToStay(hire, "after saveSnapshot()");
        hire.pass(1);
        hire.restoreSnapshot();
        dueToStay(hire, "after restoreSnapshot()");
        Checks.refused(hire, "read() of the input that stays", 5, 0, hire::read);
    }

    private static void dueToStay(TubHire hire, String when) {
        Checks.due("the input " + when, hire.number(16), 6);
        Checks.due("the end of the line " + when, hire.character(6), 'l');
        Checks.fails("what is behind it " + when, IndexOutOfBoundsException.class, () -> hire.character(7));
        Checks.due("the fault position " + when, hire.faultPosition(), 5);
        Checks.due("the reason " + when, hire.refusal(true), 2);
        Checks.due("the detail " + when, hire.refusal(false), 0);
    }
}
