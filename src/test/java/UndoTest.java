/** Promises 35 to 37: undo and snapshots. */
public final class UndoTest {
    public static void main(String[] args) {
        undoesEachChange();
        undoesTheLatest8();
        keepsTheOldestAtARefusal();
        forgets();
        noChanges();
        snapshot();
        snapshotBesideUndo();
        Checks.end();
    }

    /** A change, and a number that it changes; the hour before makes what is there before it differ from all else. */
    private static void dueUndo(TubHire hire, String name, int what, int by, Checks.Call change) {
        hire.pass(1);
        int before = hire.number(what);
        int hour = hire.number(0);
        change.run();
        Checks.due("number(" + what + ") after " + name, hire.number(what), before + by);
        int changes = hire.number(15);
        Checks.due("undo() of " + name, hire.undo(), changes - 1);
        Checks.due("number(" + what + ") after undo of " + name, hire.number(what), before);
        Checks.due("the hour after undo of " + name, hire.number(0), hour);
    }

    private static void undoesEachChange() {
        TubHire hire = Checks.withWarmTub(9);
        dueUndo(hire, "tub", 1, 1, () -> hire.tub(2));
        dueUndo(hire, "tent", 4, 1, () -> hire.tent(2));
        dueUndo(hire, "heater", 5, 1, hire::heater);
        dueUndo(hire, "join", 9, 1, () -> hire.join(0));
        dueUndo(hire, "tear", 3, 1, () -> hire.tear(0, 5));
        dueUndo(hire, "soap", 12, 4, () -> hire.soap(4));
        dueUndo(hire, "gas", 6, 20, () -> hire.gas(0, 4));
        dueUndo(hire, "pass", 0, 7, () -> hire.pass(7));
        dueUndo(hire, "back", 2, -1, () -> hire.back(0));
        hire.back(0);
        dueUndo(hire, "out", 13, 2, () -> hire.out(0, 0));
        hire.tear(0, 5);
        dueUndo(hire, "mend", 3, -1, () -> hire.mend(0, 5));
        dueUndo(hire, "cold", 4, 0, () -> hire.cold(0));
        Checks.due("the heater after undo of cold", hire.tentOf(0, 2), 0);
        hire.cold(0);
        dueUndo(hire, "heat", 4, 0, () -> hire.heat(0, 0));
        Checks.due("the heater after undo of heat", hire.tentOf(0, 2), -1);
        dueUndo(hire, "read", 0, 5, () -> {
            Checks.feed(hire, "hours 2;hours 3");
            hire.read();
        });
        TubHire used = Checks.withWarmTub(9);
        used.join(0);
        used.pass(1);
        dueUndo(used, "wash", 8, -1, () -> used.wash(1));
        undoesABath();
    }

    private static void undoesABath() {
        TubHire hire = Checks.withWarmTub(0);
        hire.join(0);
        hire.join(0);
        hire.pass(3);
        hire.undo();
        Checks.due("who waits first", hire.waiting(0, 0), 0);
        Checks.due("who waits second", hire.waiting(0, 1), 1);
        Checks.due("the litres", hire.tubOf(0, 3), 100);
        Checks.due("whether they are dirty", hire.tubOf(0, 5), 0);
        Checks.due("the baths", hire.tubOf(0, 6), 0);
        Checks.due("who bathed in the tent", hire.tentOf(0, 4), 0);
        Checks.due("who bathed", hire.number(11), 0);
        Checks.due("the soap", hire.number(12), 10);
        Checks.due("the next guest", hire.join(0), 2);
        hire.undo();
        Checks.due("the next guest again", hire.join(0), 2);
    }

    private static void undoesTheLatest8() {
        TubHire hire = new TubHire();
        Checks.fails("undo() at first", IllegalStateException.class, hire::undo);
        for (int i = 1; i <= 12; i++) {
            hire.pass(1);
            Checks.due("the changes after " + i, hire.number(15), Math.min(8, i));
        }
        for (int i = 7; i >= 0; i--) {
            Checks.due("undo()", hire.undo(), i);
            Checks.due("the hour after it", hire.number(0), 4 + i);
        }
        Checks.fails("a ninth undo()", IllegalStateException.class, hire::undo);
        Checks.due("the hour after all", hire.number(0), 4);
    }

    /** What fails is no change, and takes the place of none: neither of a call nor of a text. */
    private static void keepsTheOldestAtARefusal() {
        TubHire hire = new TubHire();
        for (int i = 0; i < 8; i++) {
            hire.pass(1);
        }
        Checks.refused(hire, "wash(1)", 13, 0, () -> hire.wash(1));
        Checks.fails("pass(49)", IllegalArgumentException.class, () -> hire.pass(49));
        Checks.fails("cold(0)", IndexOutOfBoundsException.class, () -> hire.cold(0));
        Checks.feed(hire, "hours 5;wash 1");
        Checks.refused(hire, "read()", 13, 0, hire::read);
        Checks.feed(hire, "hours");
        Checks.fails("read() of no text", IllegalArgumentException.class, hire::read);
        Checks.due("the changes", hire.number(15), 8);
        for (int i = 7; i >= 0; i--) {
            Checks.due("undo()", hire.undo(), i);
            Checks.due("the hour after it", hire.number(0), i);
        }
    }

    private static void forgets() {
        TubHire hire = new TubHire();
        for (int i = 0; i < 10; i++) {
            hire.pass(1);
        }
        hire.undo();
        hire.undo();
        hire.undo();
        Checks.due("the changes after three undone", hire.number(15), 5);
        hire.pass(10);
        Checks.due("the changes after one more", hire.number(15), 6);
        for (int i = 0; i < 6; i++) {
            hire.undo();
        }
        Checks.due("the hour at the end", hire.number(0), 2);
        Checks.fails("undo() of what was forgotten", IllegalStateException.class, hire::undo);
    }

    /** A change is one even if nothing is different then, and what asks alone is none. */
    private static void noChanges() {
        TubHire hire = Checks.withTubOut(1, 0);
        hire.heater();
        hire.tear(0, 0);
        Checks.due("the changes", hire.number(15), 5);
        hire.tear(0, 0);
        Checks.due("the changes after tear again", hire.number(15), 6);
        hire.undo();
        hire.tub(2);
        hire.join(0);
        hire.tubOf(0, 0);
        hire.torn(0, 0);
        hire.bestTub();
        hire.tentOf(0, 0);
        hire.waiting(0, 0);
        hire.heaterOf(0, true);
        hire.heatsIn(1, 10);
        hire.heatsAgain(1, 10);
        hire.line(0);
        hire.character(0);
        hire.towels();
        hire.bathedShare();
        hire.feed('a');
        hire.saveSnapshot();
        Checks.due("the changes after what is none", hire.number(15), 7);
    }

    private static void snapshot() {
        TubHire hire = Checks.withWarmTub(0);
        Checks.fails("restoreSnapshot() at first", IllegalStateException.class, hire::restoreSnapshot);
        hire.join(0);
        hire.join(0);
        Checks.due("saveSnapshot()", hire.saveSnapshot(), 1);
        int[] before = numbers(hire);
        hire.tub(3);
        hire.tent(5);
        hire.heater();
        hire.pass(20);
        hire.cold(0);
        hire.tear(0, 2);
        hire.back(0);
        hire.soap(3);
        Checks.due("restoreSnapshot()", hire.restoreSnapshot(), 1);
        int[] after = numbers(hire);
        for (int what = 0; what < 15; what++) {
            Checks.due("number(" + what + ") after restoreSnapshot()", after[what], before[what]);
        }
        Checks.due("who waits first", hire.waiting(0, 0), 0);
        Checks.due("who waits second", hire.waiting(0, 1), 1);
        Checks.due("the warmth", hire.tubOf(0, 4), 46);
        Checks.due("the tub of the tent", hire.tentOf(0, 1), 0);
        Checks.due("the heater of the tent", hire.tentOf(0, 2), 0);
        Checks.due("the changes", hire.number(15), 0);
        Checks.fails("undo() then", IllegalStateException.class, hire::undo);
        hire.tub(2);
        hire.tub(2);
        Checks.due("saveSnapshot() in place of the earlier one", hire.saveSnapshot(), 3);
        Checks.due("the changes after saveSnapshot()", hire.number(15), 2);
        hire.undo();
        Checks.due("restoreSnapshot() of the later one", hire.restoreSnapshot(), 3);
        Checks.due("restoreSnapshot() once more", hire.restoreSnapshot(), 3);
    }

    private static int[] numbers(TubHire hire) {
        int[] numbers = new int[15];
        for (int what = 0; what < 15; what++) {
            numbers[what] = hire.number(what);
        }
        return numbers;
    }

    private static void snapshotBesideUndo() {
        TubHire hire = new TubHire();
        hire.pass(1);
        hire.pass(2);
        hire.saveSnapshot();
        hire.undo();
        hire.undo();
        Checks.due("the hour after undo()", hire.number(0), 0);
        hire.restoreSnapshot();
        Checks.due("the hour after restoreSnapshot()", hire.number(0), 3);
        hire.pass(4);
        Checks.due("undo() after restoreSnapshot() and a change", hire.undo(), 0);
        Checks.due("the hour of the snapshot", hire.number(0), 3);
    }
}
