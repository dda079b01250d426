/** The sentences of promises 35 to 37 that name a boundary case. */
final class UndoSentences {
    private UndoSentences() {
    }

    static void test(Sentences document) {
        document.holds(35, "Undoes the latest change that can be undone.", UndoSentences::latestChange);
        document.holds(35, "Returns the number of changes that can still be undone.", UndoSentences::stillToUndo);
        document.holds(35, "Throws IllegalStateException if there is none", UndoSentences::nothingToUndo);
        document.holds(36, "Saves all that changes can change,", UndoSentences::savesAll);
        document.holds(36, "in place of an earlier snapshot.", UndoSentences::inPlaceOfAnEarlierOne);
        document.holds(36, "Returns the number of tubs.", UndoSentences::tubsOfSnapshot);
        document.holds(37, "Restores the latest snapshot, which is kept.", UndoSentences::isKept);
        document.holds(37, "Nothing can be undone then.", UndoSentences::nothingToUndoThen);
        document.holds(37, "Returns the number of tubs.", UndoSentences::tubsThatAreRestored);
        document.holds(37, "Throws IllegalStateException if there is none", UndoSentences::noSnapshot);
    }

    private static void latestChange() {
        TubHire hire = Checks.withDirtyTub(2, 0);
        hire.join(0);
        String[] states = new String[9];
        for (int i = 0; i < 4; i++) {
            states[i] = Checks.state(hire);
            hire.pass(1 + 3 * i);
        }
        for (int i = 3; i >= 0; i--) {
            hire.undo();
            Checks.due("the seams, water and guests", afterChanges(Checks.state(hire)), afterChanges(states[i]));
        }
    }

    /** A state without the number of changes that can be undone, which stands last among the numbers. */
    private static String afterChanges(String state) {
        String[] parts = state.split(" ");
        parts[15] = "";
        return String.join(" ", parts);
    }

    private static void stillToUndo() {
        TubHire hire = new TubHire();
        hire.pass(1);
        Checks.due("undo() of the only one", hire.undo(), 0);
        for (int i = 0; i < 9; i++) {
            hire.pass(1);
        }
        for (int i = 7; i >= 0; i--) {
            Checks.due("undo()", hire.undo(), i);
        }
        Checks.due("the hour", hire.number(0), 1);
    }

    private static void nothingToUndo() {
        TubHire hire = new TubHire();
        Checks.fails("undo() at first", IllegalStateException.class, hire::undo);
        Checks.fails("wash(0)", IllegalArgumentException.class, () -> hire.wash(0));
        Checks.fails("wash(1)", UnsupportedOperationException.class, () -> hire.wash(1));
        Checks.fails("undo() after failures", IllegalStateException.class, hire::undo);
        hire.tub(1);
        hire.undo();
        Checks.fails("undo() when all is undone", IllegalStateException.class, hire::undo);
        Checks.due("the tubs", hire.number(1), 0);
        for (int i = 0; i < 20; i++) {
            hire.pass(1);
        }
        for (int i = 0; i < 8; i++) {
            hire.undo();
        }
        Checks.fails("undo() after 8 of 20", IllegalStateException.class, hire::undo);
        Checks.due("the hour", hire.number(0), 12);
    }

    private static void savesAll() {
        TubHire hire = Checks.withDirtyTub(1, 2);
        hire.tub(3);
        hire.tent(4);
        hire.heater();
        hire.tear(1, 7);
        hire.join(0);
        hire.join(0);
        hire.saveSnapshot();
        String before = afterChanges(Checks.state(hire));
        hire.pass(17);
        hire.back(0);
        hire.mend(1, 7);
        hire.out(1, 1);
        hire.join(1);
        hire.heat(1, 1);
        hire.cold(0);
        hire.soap(2);
        hire.wash(1);
        hire.gas(0, 2);
        hire.tub(2);
        hire.tent(5);
        hire.heater();
        hire.tear(0, 0);
        Checks.due("the tubs restored", hire.restoreSnapshot(), 2);
        Checks.due("what is restored", afterChanges(Checks.state(hire)), before);
        Checks.due("the next guest", hire.join(0), 3);
        savesWhatIsMadeAnew();
    }

    /** A tub, a tent and a heater that were undone and made otherwise are those of the snapshot again. */
    private static void savesWhatIsMadeAnew() {
        TubHire hire = new TubHire();
        hire.tub(2);
        hire.tent(4);
        hire.heater();
        hire.gas(0, 3);
        hire.saveSnapshot();
        String before = afterChanges(Checks.state(hire));
        for (int i = 0; i < 4; i++) {
            hire.undo();
        }
        hire.tub(3);
        hire.tent(7);
        hire.heater();
        hire.gas(0, 1);
        hire.restoreSnapshot();
        Checks.due("what is restored of other things", afterChanges(Checks.state(hire)), before);
    }

    private static void inPlaceOfAnEarlierOne() {
        TubHire hire = new TubHire();
        hire.pass(1);
        hire.saveSnapshot();
        hire.pass(2);
        hire.saveSnapshot();
        hire.pass(4);
        hire.restoreSnapshot();
        Checks.due("the hour", hire.number(0), 3);
        hire.restoreSnapshot();
        Checks.due("the hour restored again", hire.number(0), 3);
    }

    private static void tubsOfSnapshot() {
        TubHire hire = new TubHire();
        Checks.due("saveSnapshot() without tubs", hire.saveSnapshot(), 0);
        for (int tubs = 1; tubs <= 8; tubs++) {
            hire.tub(1);
            Checks.due("saveSnapshot()", hire.saveSnapshot(), tubs);
        }
        Checks.due("the changes after snapshots", hire.number(15), 8);
    }

    private static void isKept() {
        TubHire hire = Checks.withTubs(1);
        hire.out(0, 0);
        hire.pass(1);
        hire.saveSnapshot();
        String before = afterChanges(Checks.state(hire));
        for (int i = 0; i < 3; i++) {
            hire.tear(0, i);
            hire.pass(5);
            hire.restoreSnapshot();
            Checks.due("what is restored", afterChanges(Checks.state(hire)), before);
        }
    }

    private static void nothingToUndoThen() {
        TubHire hire = new TubHire();
        hire.pass(1);
        hire.saveSnapshot();
        hire.pass(2);
        Checks.due("the changes before", hire.number(15), 2);
        hire.restoreSnapshot();
        Checks.due("the changes then", hire.number(15), 0);
        Checks.fails("undo() then", IllegalStateException.class, hire::undo);
        Checks.due("the hour", hire.number(0), 1);
        hire.pass(4);
        Checks.due("undo() of a later change", hire.undo(), 0);
        Checks.due("the hour then", hire.number(0), 1);
    }

    private static void tubsThatAreRestored() {
        TubHire hire = new TubHire();
        hire.saveSnapshot();
        hire.tub(1);
        Checks.due("restoreSnapshot() without tubs", hire.restoreSnapshot(), 0);
        for (int i = 0; i < 8; i++) {
            hire.tub(1);
        }
        hire.saveSnapshot();
        hire.undo();
        Checks.due("restoreSnapshot() with 8 tubs", hire.restoreSnapshot(), 8);
        Checks.due("the tubs", hire.number(1), 8);
    }

    private static void noSnapshot() {
        TubHire hire = new TubHire();
        Checks.fails("restoreSnapshot() at first", IllegalStateException.class, hire::restoreSnapshot);
        hire.tub(1);
        Checks.fails("restoreSnapshot() after a change", IllegalStateException.class, hire::restoreSnapshot);
        Checks.due("the tubs", hire.number(1), 1);
        Checks.due("the changes", hire.number(15), 1);
        hire.saveSnapshot();
        Checks.due("restoreSnapshot() of one", hire.restoreSnapshot(), 1);
    }
}
