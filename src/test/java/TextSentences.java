import java.util.NoSuchElementException;

/** The sentences of promises 31 to 34 that name a boundary case. */
final class TextSentences {
    private TextSentences() {
    }

    static void test(Sentences document) {
        document.holds(31, "Returns the length of the input.", TextSentences::lengthOfInput);
        document.holds(31, "Throws IllegalStateException if the input has 60 characters", TextSentences::fullInput);
        document.holds(32, "Reads the input as a text and carries its commands out, all of them or none.",
                TextSentences::allOrNone);
        document.holds(32, "The input is empty afterwards, whatever happens.", TextSentences::emptyAfterwards);
        document.holds(32, "Returns the number of commands.", TextSentences::numberOfCommands);
        document.holds(32, "Throws IllegalArgumentException if the input is no text; the fault position is kept",
                TextSentences::noText);
        document.holds(32, "Throws UnsupportedOperationException if a command is refused",
                TextSentences::refusedCommand);
        document.holds(33, "Returns the fault position that was kept last.", TextSentences::keptLast);
        document.holds(33, "Throws NoSuchElementException if none was kept", TextSentences::noFault);
        document.holds(34, "isReason: true for the reason, false for its detail", TextSentences::reasonAndDetail);
        document.holds(34, "Throws NoSuchElementException if nothing was refused", TextSentences::nothingRefused);
    }

    private static void lengthOfInput() {
        TubHire hire = new TubHire();
        for (int i = 1; i <= 60; i++) {
            Checks.due("feed " + i, hire.feed((char) (i * 1092)), i);
        }
        Checks.fails("read()", IllegalArgumentException.class, hire::read);
        Checks.due("feed after read()", hire.feed((char) 65535), 1);
        Checks.due("feed of no sign", hire.feed((char) 0), 2);
    }

    private static void fullInput() {
        TubHire hire = new TubHire();
        Checks.feed(hire, "hours 1;hours 1;hours 1;hours 1;hours 1;hours 1;hours 1;hour");
        Checks.fails("feed 61", IllegalStateException.class, () -> hire.feed('s'));
        Checks.fails("feed 61 once more", IllegalStateException.class, () -> hire.feed('s'));
        Checks.due("the characters", hire.number(16), 60);
        Checks.fails("read()", IllegalArgumentException.class, hire::read);
        Checks.due("the fault", hire.faultPosition(), 60);
        Checks.due("the hour", hire.number(0), 0);
    }

    private static void allOrNone() {
        TubHire hire = Checks.withTubs(1);
        String before = Checks.state(hire);
        Checks.feed(hire, "out 0 0;heat 0 0;join 0;hours 5;wash 1;soap 3;back 0;cold 1");
        Checks.refused(hire, "read() with the last one refused", 20, 7, hire::read);
        Checks.due("the state then", Checks.state(hire), before);
        Checks.feed(hire, "out 0 0;heat 0 0;join 0;hours 5;wash 1;soap 3;back 0;x");
        Checks.fails("read() with a fault at the end", IllegalArgumentException.class, hire::read);
        Checks.due("the state after the fault", Checks.state(hire), before);
        Checks.feed(hire, "out 0 0;heat 0 0;join 0;hours 5;wash 1;soap 3;back 0;cold 0");
        Checks.due("read() of all", hire.read(), 8);
        Checks.due("the hour", hire.number(0), 5);
        Checks.due("the soap", hire.number(12), 12);
        Checks.due("the coins", hire.number(13), 12);
        Checks.due("the changes", hire.number(15), 4);
        hire.undo();
        Checks.due("the state after undo()", Checks.state(hire), before);
    }

    private static void emptyAfterwards() {
        String[] texts = {"", "x", "hours 1", "hours", "back 0", "wash 0"};
        for (String text : texts) {
            TubHire hire = Checks.withTubs(1);
            Checks.feed(hire, text);
            try {
                hire.read();
            } catch (IllegalArgumentException | UnsupportedOperationException e) {
                Checks.due("whether \"hours 1\" is refused", text.equals("hours 1"), false);
            }
            Checks.due("the characters after \"" + text + "\"", hire.number(16), 0);
            Checks.feed(hire, "hours 2");
            Checks.due("read() after \"" + text + "\"", hire.read(), 1);
        }
    }

    private static void numberOfCommands() {
        TubHire hire = Checks.withTubs(1);
        hire.out(0, 0);
        String text = "hours 1";
        for (int commands = 1; commands <= 7; commands++) {
            Checks.feed(hire, text);
            Checks.due("read() of \"" + text + "\"", hire.read(), commands);
            text += ";hours 1";
        }
        Checks.feed(hire, "join 0;join 0;join 0;join 0;join 0;join 0;back 0");
        Checks.due("read() of seven", hire.read(), 7);
        Checks.due("who waits", hire.number(9), 6);
    }

    private static void noText() {
        String[] texts = {"", "hours", "hours 1;", "hours 1;x", "hours 123"};
        int[] faults = {0, 5, 8, 8, 8};
        for (int i = 0; i < texts.length; i++) {
            TubHire hire = Checks.withTubs(1);
            Checks.feed(hire, texts[i]);
            Checks.fails("read \"" + texts[i] + "\"", IllegalArgumentException.class, hire::read);
            Checks.due("the fault of \"" + texts[i] + "\"", hire.faultPosition(), faults[i]);
            Checks.due("the hour after \"" + texts[i] + "\"", hire.number(0), 0);
            Checks.due("the changes after \"" + texts[i] + "\"", hire.number(15), 3);
        }
    }

    private static void refusedCommand() {
        TubHire hire = Checks.withTubs(1);
        Checks.feed(hire, "back 0");
        Checks.refused(hire, "read() of one", 5, 0, hire::read);
        Checks.feed(hire, "hours 1;hours 1;hours 1;hours 1;hours 1;hours 1;cold 0");
        Checks.refused(hire, "read() of seven", 9, 0, hire::read);
        Checks.feed(hire, "hours 1;back 1;hours 1");
        Checks.refused(hire, "read() of three", 20, 1, hire::read);
        Checks.due("the hour", hire.number(0), 0);
        Checks.due("the changes", hire.number(15), 3);
        Checks.fails("faultPosition()", NoSuchElementException.class, hire::faultPosition);
    }

    private static void keptLast() {
        TubHire hire = Checks.withTubs(1);
        int[] faults = {5, 0, 7, 1};
        String[] texts = {"hours", "", "hours 1 ", "hx"};
        for (int i = 0; i < texts.length; i++) {
            Checks.feed(hire, texts[i]);
            Checks.fails("read \"" + texts[i] + "\"", IllegalArgumentException.class, hire::read);
            Checks.due("faultPosition()", hire.faultPosition(), faults[i]);
            Checks.feed(hire, "hours 1");
            hire.read();
            Checks.feed(hire, "hours 0");
            Checks.refused(hire, "read()", 20, 0, hire::read);
            Checks.due("faultPosition() after two texts", hire.faultPosition(), faults[i]);
        }
    }

    private static void noFault() {
        TubHire hire = Checks.withTubs(1);
        Checks.fails("faultPosition() at first", NoSuchElementException.class, hire::faultPosition);
        Checks.feed(hire, "hours 1");
        hire.read();
        Checks.feed(hire, "hours 0");
        Checks.refused(hire, "read()", 20, 0, hire::read);
        hire.feed('?');
        Checks.fails("faultPosition() after texts", NoSuchElementException.class, hire::faultPosition);
        Checks.fails("read()", IllegalArgumentException.class, hire::read);
        Checks.due("faultPosition() of ?", hire.faultPosition(), 0);
    }

    private static void reasonAndDetail() {
        TubHire hire = new TubHire();
        hire.heater();
        Checks.refused(hire, "soap(15)", 12, 5, () -> hire.soap(15));
        Checks.refused(hire, "wash(1)", 13, 0, () -> hire.wash(1));
        Checks.refused(hire, "gas(0, 11)", 12, 1, () -> hire.gas(0, 11));
        Checks.due("the reason asked again", hire.refusal(true), 12);
        Checks.due("the detail asked again", hire.refusal(false), 1);
    }

    private static void nothingRefused() {
        TubHire hire = new TubHire();
        Checks.fails("refusal(true)", NoSuchElementException.class, () -> hire.refusal(true));
        Checks.fails("refusal(false)", NoSuchElementException.class, () -> hire.refusal(false));
        hire.tub(1);
        Checks.fails("tub(0)", IllegalArgumentException.class, () -> hire.tub(0));
        Checks.fails("back(1)", IndexOutOfBoundsException.class, () -> hire.back(1));
        Checks.fails("read()", IllegalArgumentException.class, hire::read);
        Checks.fails("refusal(true) after other exceptions", NoSuchElementException.class, () -> hire.refusal(true));
        Checks.refused(hire, "back(0)", 5, 0, () -> hire.back(0));
    }
}
