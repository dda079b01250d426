import java.util.NoSuchElementException;

/** Promises 31 to 34: texts and refusals. */
public final class TextsTest {
    public static void main(String[] args) {
        feed();
        readsEachCommand();
        readsManyCommands();
        faults();
        faultPosition();
        refusedCommands();
        failedCommands();
        allOrNone();
        refusal();
        Checks.end();
    }

    private static void feed() {
        TubHire hire = new TubHire();
        for (int i = 1; i <= 60; i++) {
            Checks.due("feed " + i, hire.feed((char) (i * 997)), i);
        }
        Checks.fails("feed 61", IllegalStateException.class, () -> hire.feed('a'));
        Checks.due("the input", hire.number(16), 60);
        Checks.fails("read()", IllegalArgumentException.class, hire::read);
        Checks.due("the input after read()", hire.number(16), 0);
        Checks.due("feed after read()", hire.feed('x'), 1);
        hire.tub(1);
        hire.undo();
        hire.saveSnapshot();
        hire.restoreSnapshot();
        Checks.due("the input after undo and snapshots", hire.number(16), 1);
    }

    private static TubHire prepared() {
        TubHire hire = new TubHire();
        for (int i = 0; i < 3; i++) {
            hire.tub(i + 1);
            hire.tent(i);
            hire.heater();
        }
        return hire;
    }

    private static int read(TubHire hire, String text) {
        Checks.feed(hire, text);
        return hire.read();
    }

    private static void readsEachCommand() {
        TubHire hire = prepared();
        Checks.due("out", read(hire, "out 2 1"), 1);
        Checks.due("the tent of tub 2", hire.tubOf(2, 1), 1);
        Checks.due("heat", read(hire, "heat 0 1"), 1);
        Checks.due("the tent of heater 0", hire.heaterOf(0, false), 1);
        Checks.due("cold", read(hire, "cold 0"), 1);
        Checks.due("the tent of heater 0 then", hire.heaterOf(0, false), -1);
        Checks.due("join", read(hire, "join 1"), 1);
        Checks.due("who waits", hire.waiting(1, 0), 0);
        hire.tear(2, 5);
        Checks.due("mend", read(hire, "mend 2 5"), 1);
        Checks.due("the seams", hire.tubOf(2, 2), 0);
        Checks.due("hours of one digit", read(hire, "hours 3"), 1);
        Checks.due("the hour", hire.number(0), 3);
        Checks.due("hours of two digits", read(hire, "hours 48"), 1);
        Checks.due("the hour then", hire.number(0), 51);
        Checks.due("hours with a zero ahead", read(hire, "hours 04"), 1);
        Checks.due("the hour after that", hire.number(0), 55);
        Checks.due("back", read(hire, "back 2"), 1);
        Checks.due("the tent of tub 2 then", hire.tubOf(2, 1), -1);
        Checks.due("soap", read(hire, "soap 11"), 1);
        Checks.due("the slices", hire.number(12), 21);
        Checks.due("the input after it", hire.number(16), 0);
        TubHire bathed = Checks.withWarmTub(9);
        bathed.join(0);
        bathed.pass(1);
        Checks.due("wash", read(bathed, "wash 20"), 1);
        Checks.due("the clean towels", bathed.number(7), 12);
    }

    private static void readsManyCommands() {
        TubHire hire = prepared();
        String text = "out 0 0;heat 0 0;join 0;join 0;hours 14;wash 1;soap 1;back 0";
        Checks.due("the length of the text", text.length(), 60);
        int changes = hire.number(15);
        Checks.due("eight commands", read(hire, text), 8);
        Checks.due("who bathed", hire.number(11), 1);
        Checks.due("the coins", hire.number(13), 10 + 2 + 4 - 1 - 1);
        Checks.due("the changes", hire.number(15), Math.min(8, changes + 1));
        hire.undo();
        Checks.due("the hour after undo", hire.number(0), 0);
        Checks.due("the guests after undo", hire.number(10), 0);
    }

    private static void faults() {
        dueFault("", 0);
        dueFault("x", 0);
        dueFault(" out 0 0", 0);
        dueFault("Out 0 0", 0);
        dueFault(";", 0);
        dueFault("0", 0);
        dueFault("o", 1);
        dueFault("ox", 1);
        dueFault("out", 3);
        dueFault("out0 0", 3);
        dueFault("out ", 4);
        dueFault("out  0", 4);
        dueFault("out x 0", 4);
        dueFault("out 0", 5);
        dueFault("out 00", 5);
        dueFault("out 0;", 5);
        dueFault("out 0 ", 6);
        dueFault("out 0 ;", 6);
        dueFault("out 0 00", 7);
        dueFault("out 0 0 ", 7);
        dueFault("out 0 0;", 8);
        dueFault("out 0 0; out", 8);
        dueFault("out 0 0;;", 8);
        dueFault("bac 0", 3);
        dueFault("back ", 5);
        dueFault("back 12", 6);
        dueFault("back 1 2", 6);
        dueFault("h", 1);
        dueFault("hx", 1);
        dueFault("he", 2);
        dueFault("heours 1", 2);
        dueFault("heat 1", 6);
        dueFault("hot 1 1", 2);
        dueFault("hours ", 6);
        dueFault("hours x", 6);
        dueFault("hours 123", 8);
        dueFault("hours 1x", 7);
        dueFault("hours 1 ", 7);
        dueFault("hours -1", 6);
        dueFault("cold 1 1", 6);
        dueFault("join 10", 6);
        dueFault("mend 1", 6);
        dueFault("mend 1 x", 7);
        dueFault("wash 1:", 6);
        dueFault("wash 1/", 6);
        dueFault("wash 12;wash", 12);
        dueFault("wash 12;x", 8);
        dueFault("wasp", 3);
        dueFault("soap 1;soap 22;s", 16);
        dueFault("soap" + (char) 160 + "1", 4);
        dueFault("soap " + (char) 0x661, 5);
    }

    private static void dueFault(String text, int position) {
        TubHire hire = prepared();
        Checks.feed(hire, text);
        Checks.fails("read \"" + text + "\"", IllegalArgumentException.class, hire::read);
        Checks.due("the fault position of \"" + text + "\"", hire.faultPosition(), position);
        Checks.due("the input after \"" + text + "\"", hire.number(16), 0);
        Checks.due("the changes after \"" + text + "\"", hire.number(15), 8);
        Checks.fails("a refusal after \"" + text + "\"", NoSuchElementException.class, () -> hire.refusal(true));
    }

    private static void faultPosition() {
        TubHire hire = prepared();
        Checks.fails("faultPosition() at first", NoSuchElementException.class, hire::faultPosition);
        read(hire, "hours 1");
        Checks.fails("faultPosition() after a text", NoSuchElementException.class, hire::faultPosition);
        hire.saveSnapshot();
        Checks.feed(hire, "hours");
        Checks.fails("read \"hours\"", IllegalArgumentException.class, hire::read);
        read(hire, "hours 1");
        Checks.due("faultPosition() after another text", hire.faultPosition(), 5);
        hire.undo();
        hire.restoreSnapshot();
        Checks.due("faultPosition() after undo and restoreSnapshot", hire.faultPosition(), 5);
        Checks.fails("read nothing", IllegalArgumentException.class, hire::read);
        Checks.due("faultPosition() of nothing", hire.faultPosition(), 0);
    }

    private static void dueRefusal(TubHire hire, String text, int reason, int detail) {
        Checks.feed(hire, text);
        Checks.refused(hire, "read \"" + text + "\"", reason, detail, hire::read);
        Checks.due("the input after \"" + text + "\"", hire.number(16), 0);
    }

    private static void refusedCommands() {
        TubHire hire = prepared();
        dueRefusal(hire, "out 0 1;out 0 0", 2, 1);
        hire.tear(1, 7);
        dueRefusal(hire, "out 1 1", 3, 7);
        dueRefusal(hire, "out 0 1;out 2 1", 4, 0);
        dueRefusal(hire, "back 2", 5, 2);
        dueRefusal(hire, "join 2", 6, 2);
        dueRefusal(hire, "out 0 0;join 0;join 0;join 0;join 0;join 0;join 0;join 0", 1, 6);
        dueRefusal(hire, "heat 1 2;heat 1 0", 7, 2);
        dueRefusal(hire, "heat 1 2;heat 0 2", 8, 1);
        dueRefusal(hire, "cold 2", 9, 2);
        dueRefusal(hire, "mend 1 6", 11, 6);
        dueRefusal(hire, "soap 9;mend 1 7", 12, 1);
        dueRefusal(hire, "soap 20", 12, 10);
        dueRefusal(hire, "wash 1", 13, 0);
        dueRefusal(hire, "out 2 0;hours 1;wash 1", 13, 0);
        Checks.due("the hour after all that", hire.number(0), 0);
        Checks.due("the coins after all that", hire.number(13), 10);
    }

    private static void failedCommands() {
        String[] failing = {"out 3 0", "out 0 3", "back 9", "heat 3 0", "heat 0 9", "cold 3", "join 3", "mend 3 0",
            "mend 0 8", "wash 0", "wash 21", "wash 99", "soap 0", "soap 00", "soap 21", "hours 0", "hours 49"};
        for (String command : failing) {
            TubHire hire = prepared();
            dueRefusal(hire, command, 20, 0);
            dueRefusal(hire, "hours 1;" + command, 20, 1);
            dueRefusal(hire, "hours 1;hours 2;" + command + ";hours 3", 20, 2);
            Checks.due("the hour after all that", hire.number(0), 0);
            Checks.due("the latest refusal's reason", hire.refusal(true), 20);
        }
    }

    private static void allOrNone() {
        TubHire hire = prepared();
        hire.out(0, 0);
        hire.join(0);
        hire.heat(0, 0);
        hire.pass(4);
        int changes = hire.number(15);
        int[] before = seen(hire);
        dueRefusal(hire, "hours 30;soap 2;wash 1;back 0;out 0 1;join 0;out 1 0", 6, 0);
        int[] after = seen(hire);
        for (int i = 0; i < before.length; i++) {
            Checks.due("part " + i + " after a refused text", after[i], before[i]);
        }
        Checks.due("the changes after a refused text", hire.number(15), changes);
        hire.undo();
        Checks.due("the hour after undo", hire.number(0), 0);
        Checks.due("the changes after undo", hire.number(15), changes - 1);
    }

    private static int[] seen(TubHire hire) {
        int[] seen = new int[15 + 7 + 7 + 5 + 2 + 1];
        int at = 0;
        for (int what = 0; what < 15; what++) {
            seen[at++] = hire.number(what);
        }
        for (int what = 0; what < 7; what++) {
            seen[at++] = hire.tubOf(0, what);
            seen[at++] = hire.tubOf(1, what);
        }
        for (int what = 0; what < 5; what++) {
            seen[at++] = hire.tentOf(0, what);
        }
        seen[at++] = hire.heaterOf(0, true);
        seen[at++] = hire.heaterOf(0, false);
        seen[at] = hire.waiting(0, 0);
        return seen;
    }

    private static void refusal() {
        TubHire hire = new TubHire();
        Checks.fails("refusal(true) at first", NoSuchElementException.class, () -> hire.refusal(true));
        Checks.fails("refusal(false) at first", NoSuchElementException.class, () -> hire.refusal(false));
        Checks.fails("tub(0)", IllegalArgumentException.class, () -> hire.tub(0));
        Checks.fails("out(0, 0)", IndexOutOfBoundsException.class, () -> hire.out(0, 0));
        Checks.fails("refusal(true) after them", NoSuchElementException.class, () -> hire.refusal(true));
        hire.saveSnapshot();
        Checks.refused(hire, "soap(13)", 12, 3, () -> hire.soap(13));
        hire.soap(1);
        hire.undo();
        hire.restoreSnapshot();
        Checks.due("the reason after undo and restoreSnapshot", hire.refusal(true), 12);
        Checks.due("the detail after undo and restoreSnapshot", hire.refusal(false), 3);
        Checks.refused(hire, "wash(1)", 13, 0, () -> hire.wash(1));
        Checks.fails("wash(0)", IllegalArgumentException.class, () -> hire.wash(0));
        Checks.due("the reason after another exception", hire.refusal(true), 13);
    }
}
