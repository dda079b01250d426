import java.util.NoSuchElementException;

/** The sentences of "Terms" on the input and the texts in it. */
final class GrammarSentences {
    private GrammarSentences() {
    }

    static void test(Sentences document) {
        document.holds(0, "The input holds at most 60 characters.", GrammarSentences::sixtyCharacters);
        document.holds(0, "where each blank is one:", GrammarSentences::blanks);
        document.holds(0, "text: command { \";\" command }", GrammarSentences::oneCommandOrMore);
        document.holds(0, "\"out \" digit \" \" digit", () -> dueTwoDigits("out "));
        document.holds(0, "\"back \" digit", () -> dueDigit("back "));
        document.holds(0, "\"heat \" digit \" \" digit", () -> dueTwoDigits("heat "));
        document.holds(0, "\"cold \" digit", () -> dueDigit("cold "));
        document.holds(0, "\"join \" digit", () -> dueDigit("join "));
        document.holds(0, "\"mend \" digit \" \" digit", () -> dueTwoDigits("mend "));
        document.holds(0, "\"wash \" number", () -> dueNumber("wash "));
        document.holds(0, "\"soap \" number", () -> dueNumber("soap "));
        document.holds(0, "\"hours \" number", () -> dueNumber("hours "));
        document.holds(0, "number: one or two digits", GrammarSentences::numbers);
        document.holds(0, "The fault position of a text is the offset of the first character that cannot continue such"
                + " a text,", GrammarSentences::firstFault);
        document.holds(0, "or the length of the text if it ends too early.", GrammarSentences::endsTooEarly);
        document.holds(0, "A command is refused for the reason for which the method for it is refused,",
                GrammarSentences::reasonsOfMethods);
        document.holds(0, "or for the reason 20, with the number of the command, from 0, as the detail, if this method"
                + " would throw another exception than UnsupportedOperationException.", GrammarSentences::reason20);
    }

    private static TubHire prepared() {
        return Checks.withTubs(3);
    }

    private static void dueFault(String text, int position) {
        TubHire hire = prepared();
        Checks.feed(hire, text);
        Checks.fails("read \"" + text + "\"", IllegalArgumentException.class, hire::read);
        Checks.due("the fault position of \"" + text + "\"", hire.faultPosition(), position);
        Checks.fails("a refusal by \"" + text + "\"", NoSuchElementException.class, () -> hire.refusal(true));
    }

    /** A text is one though its command may be refused. */
    private static void dueText(String text) {
        TubHire hire = prepared();
        Checks.feed(hire, text);
        try {
            hire.read();
        } catch (UnsupportedOperationException e) {
            Checks.due("the reason for \"" + text + "\"", hire.refusal(true) > 0, true);
        }
        Checks.fails("a fault in \"" + text + "\"", NoSuchElementException.class, hire::faultPosition);
    }

    private static void sixtyCharacters() {
        TubHire hire = prepared();
        String text = "out 0 0;hours 1;hours 1;hours 1;hours 1;hours 1;heat 0 0;bac";
        for (int i = 0; i < 60; i++) {
            Checks.due("feed " + i, hire.feed(text.charAt(i)), i + 1);
        }
        Checks.fails("feed 60", IllegalStateException.class, () -> hire.feed(';'));
        Checks.due("the characters", hire.number(16), 60);
        Checks.fails("read()", IllegalArgumentException.class, hire::read);
        Checks.due("the fault at the end", hire.faultPosition(), 60);
        Checks.feed(hire, "out 0 0;heat 0 0;join 0;hours 05;back 0;cold 0;soap 1;wash 1");
        Checks.due("the characters of a text that is full", hire.number(16), 60);
        Checks.due("read() of it", hire.read(), 8);
    }

    private static void blanks() {
        dueText("out 1 1");
        dueFault("out  1 1", 4);
        dueFault("out 1  1", 6);
        dueFault("out1 1", 3);
        dueFault("out 11", 5);
        dueFault(" out 1 1", 0);
        dueFault("out 1 1 ", 7);
        dueFault("out 1 1; out 2 2", 8);
        dueFault("out 1 1 ;out 2 2", 7);
        dueFault("wash  1", 5);
        dueFault("wash" + (char) 9 + "1", 4);
        dueFault("wash" + (char) 160 + "1", 4);
    }

    private static void oneCommandOrMore() {
        dueText("back 0");
        dueText("back 0;back 1");
        dueText("hours 1;hours 2;hours 3;hours 4;hours 5;hours 6;hours 7");
        dueFault("", 0);
        dueFault(";", 0);
        dueFault("back 0;", 7);
        dueFault("back 0;;back 1", 7);
        dueFault(";back 0", 0);
        dueFault("back 0,back 1", 6);
        dueFault("back 0back 1", 6);
    }

    private static void dueDigit(String word) {
        int length = word.length();
        for (char digit = '0'; digit <= '9'; digit++) {
            dueText(word + digit);
        }
        dueFault(word, length);
        dueFault(word + '/', length);
        dueFault(word + ':', length);
        dueFault(word + "-1", length);
        dueFault(word + (char) 0x661, length);
        dueFault(word + "00", length + 1);
        dueFault(word + "0 0", length + 1);
        dueWord(word);
    }

    private static void dueTwoDigits(String word) {
        int length = word.length();
        for (char digit = '0'; digit <= '9'; digit++) {
            dueText(word + digit + " 0");
            dueText(word + "0 " + digit);
        }
        dueFault(word, length);
        dueFault(word + '/', length);
        dueFault(word + '0', length + 1);
        dueFault(word + "0:0", length + 1);
        dueFault(word + "00", length + 1);
        dueFault(word + "0 ", length + 2);
        dueFault(word + "0 /", length + 2);
        dueFault(word + "0 :", length + 2);
        dueFault(word + "0 00", length + 3);
        dueFault(word + "0 0 0", length + 3);
        dueWord(word);
    }

    private static void dueNumber(String word) {
        int length = word.length();
        for (char digit = '0'; digit <= '9'; digit++) {
            dueText(word + digit);
            dueText(word + digit + '9');
            dueText(word + '0' + digit);
        }
        dueFault(word, length);
        dueFault(word + '/', length);
        dueFault(word + ':', length);
        dueFault(word + "1/", length + 1);
        dueFault(word + "1:", length + 1);
        dueFault(word + "123", length + 2);
        dueFault(word + "1 2", length + 1);
        dueWord(word);
    }

    /** Of each word all signs are needed, as they are. */
    private static void dueWord(String word) {
        for (int i = 0; i < word.length(); i++) {
            dueFault(word.substring(0, i), i);
            dueFault(word.substring(0, i) + '?' + word.substring(i + 1), i);
            dueFault("hours 1;" + word.substring(0, i) + '?', 8 + i);
        }
        dueFault(Character.toUpperCase(word.charAt(0)) + word.substring(1) + "0", 0);
    }

    private static void numbers() {
        TubHire hire = prepared();
        int[] hours = {1, 9, 10, 48, 1, 9};
        String[] told = {"1", "9", "10", "48", "01", "09"};
        int hour = 0;
        for (int i = 0; i < hours.length; i++) {
            Checks.feed(hire, "hours " + told[i]);
            hire.read();
            hour += hours[i];
            Checks.due("the hour after hours " + told[i], hire.number(0), hour);
        }
        dueFault("hours ", 6);
        dueFault("hours 100", 8);
        dueFault("hours 001", 8);
    }

    private static void firstFault() {
        dueFault("x", 0);
        dueFault("xut 0 0x", 0);
        dueFault("oat 0 0", 1);
        dueFault("heurs 1", 2);
        dueFault("hoat 0 0", 2);
        dueFault("hex", 2);
        dueFault("out 0 0 x;y", 7);
        dueFault("back 0;back 1;bock 2;bxck 3", 15);
        dueFault("soap 99x", 7);
        dueFault("soap 9x", 6);
        dueFault("out 9 9;hours 99;hours 999", 25);
    }

    private static void endsTooEarly() {
        dueFault("", 0);
        dueFault("h", 1);
        dueFault("he", 2);
        dueFault("ho", 2);
        dueFault("hours", 5);
        dueFault("hours ", 6);
        dueFault("hours 1;", 8);
        dueFault("hours 1;h", 9);
        dueFault("out 0", 5);
        dueFault("out 0 ", 6);
        dueFault("hours 10;hours 10;hours 10;hours 10;hours 10;hours 10;hours ", 60);
    }

    private static void dueRefusal(TubHire hire, String text, int reason, int detail) {
        String before = Checks.state(hire);
        Checks.feed(hire, text);
        Checks.refused(hire, "read \"" + text + "\"", reason, detail, hire::read);
        Checks.due("the state after \"" + text + "\"", Checks.state(hire), before);
    }

    private static void reasonsOfMethods() {
        dueRefusal(prepared(), "out 0 2;out 0 1", 2, 2);
        TubHire torn = prepared();
        torn.tear(1, 6);
        dueRefusal(torn, "out 1 0", 3, 6);
        dueRefusal(prepared(), "out 1 0;out 2 0", 4, 1);
        dueRefusal(prepared(), "hours 1;back 2", 5, 2);
        dueRefusal(prepared(), "hours 1;join 2", 6, 2);
        dueRefusal(prepared(), "out 0 1;join 1;join 1;join 1;join 1;join 1;join 1;join 1", 1, 6);
        dueRefusal(prepared(), "heat 0 2;heat 0 1", 7, 2);
        dueRefusal(prepared(), "heat 1 2;heat 0 2", 8, 1);
        dueRefusal(prepared(), "hours 1;cold 2", 9, 2);
        TubHire towels = Checks.withoutTowels();
        towels.out(2, 2);
        dueRefusal(towels, "hours 5;join 2", 10, 1);
        dueRefusal(prepared(), "hours 1;mend 2 7", 11, 7);
        dueRefusal(torn, "soap 9;mend 1 6", 12, 1);
        dueRefusal(prepared(), "hours 1;soap 13", 12, 3);
        dueRefusal(prepared(), "hours 1;wash 1", 13, 0);
        TubHire full = Checks.withTubOut(2, 0);
        full.tear(0, 3);
        dueRefusal(full, "hours 1;mend 0 3", 14, 200);
        TubHire used = Checks.withDirtyTub(1, 0);
        dueRefusal(used, "soap 16;wash 20", 12, 1);
    }

    private static void reason20() {
        String[] failing = {"out 3 0", "out 0 3", "back 3", "heat 3 0", "heat 0 3", "cold 3", "join 3", "mend 3 0",
            "mend 0 8", "wash 0", "wash 21", "soap 0", "soap 21", "hours 0", "hours 00", "hours 49"};
        for (String command : failing) {
            dueRefusal(prepared(), command, 20, 0);
            dueRefusal(prepared(), "hours 1;" + command, 20, 1);
        }
        dueRefusal(prepared(), "hours 1;hours 2;back 9;hours 0", 20, 2);
        dueRefusal(prepared(), "hours 1;hours 1;hours 1;hours 1;hours 1;hours 1;hours 0", 20, 6);
        dueRefusal(prepared(), "back 9;back 0", 20, 0);
        dueRefusal(prepared(), "back 0;back 9", 5, 0);
        for (String command : new String[] {"wash 20", "soap 20", "hours 48", "mend 0 7"}) {
            TubHire hire = prepared();
            Checks.feed(hire, command);
            try {
                hire.read();
            } catch (UnsupportedOperationException e) {
                Checks.due("whether \"" + command + "\" is refused for 20", hire.refusal(true) == 20, false);
            }
        }
    }
}
