/** Promises 25 to 30: lines and accounts. */
public final class AccountsTest {
    public static void main(String[] args) {
        line();
        character();
        number();
        numberOfWhatIsPresent();
        towels();
        meanWarmth();
        bathedShare();
        Checks.end();
    }

    private static void line() {
        TubHire hire = new TubHire();
        hire.tent(0);
        Checks.due("the line of a bare tent", Checks.line(hire, 0), "0: no tub");
        hire.heater();
        hire.heat(0, 0);
        Checks.due("the line with a heater", Checks.line(hire, 0), "0: no tub h20");
        hire.tub(1);
        hire.out(0, 0);
        Checks.due("the line without water", Checks.line(hire, 0), "0: 0 0l h20");
        hire.pass(4);
        Checks.due("the line with water", Checks.line(hire, 0), "0: 0 100l 46c h17");
        hire.join(0);
        hire.join(0);
        Checks.due("the line with guests", Checks.line(hire, 0), "0: 0 100l 46c h17 +2");
        hire.pass(1);
        Checks.due("the line with dirty water", Checks.line(hire, 0), "0: 0 100l 46c dirty h17 +1");
        hire.pass(4);
        Checks.due("the line with less of it", Checks.line(hire, 0), "0: 0 20l 46c dirty h17 +1");
        hire.pass(1);
        Checks.due("the line with none of it", Checks.line(hire, 0), "0: 0 0l h17 +1");
        hire.cold(0);
        Checks.due("the line without a heater", Checks.line(hire, 0), "0: 0 0l +1");
        hire.back(0);
        Checks.due("the line without a tub", Checks.line(hire, 0), "0: no tub +1");
        lineOfTheDocument();
    }

    private static void lineOfTheDocument() {
        TubHire hire = new TubHire();
        for (int i = 0; i < 5; i++) {
            hire.tub(2);
        }
        hire.tent(0);
        hire.tent(0);
        hire.heater();
        hire.out(4, 1);
        hire.heat(0, 1);
        hire.pass(9);
        for (int i = 0; i < 3; i++) {
            hire.join(1);
        }
        Checks.due("the line before", Checks.line(hire, 1), "1: 4 200l 58c h12 +3");
        Checks.due("its length", hire.line(1), 20);
        Checks.due("the line of the other tent", Checks.line(hire, 0), "0: no tub");
        Checks.fails("line(2)", IndexOutOfBoundsException.class, () -> hire.line(2));
        Checks.fails("line(-1)", IndexOutOfBoundsException.class, () -> hire.line(-1));
        Checks.due("the last character of the line that stays", hire.character(8), 'b');
    }

    private static void character() {
        TubHire hire = new TubHire();
        Checks.fails("character(0) at first", IndexOutOfBoundsException.class, () -> hire.character(0));
        hire.tent(0);
        Checks.fails("character(0) without a line", IndexOutOfBoundsException.class, () -> hire.character(0));
        hire.line(0);
        Checks.due("character(0)", hire.character(0), '0');
        Checks.due("character(1)", hire.character(1), ':');
        Checks.fails("character(-1)", IndexOutOfBoundsException.class, () -> hire.character(-1));
        Checks.fails("character(9)", IndexOutOfBoundsException.class, () -> hire.character(9));
        Checks.fails("character(greatest)", IndexOutOfBoundsException.class, () -> hire.character(Integer.MAX_VALUE));
        hire.undo();
        Checks.due("character(8) after undo", hire.character(8), 'b');
        hire.saveSnapshot();
        hire.restoreSnapshot();
        Checks.due("character(8) after restoreSnapshot", hire.character(8), 'b');
    }

    private static void number() {
        TubHire hire = new TubHire();
        Checks.fails("number(-1)", IllegalArgumentException.class, () -> hire.number(-1));
        Checks.fails("number(17)", IllegalArgumentException.class, () -> hire.number(17));
        hire.tub(1);
        hire.tub(2);
        hire.tub(3);
        hire.tent(9);
        hire.tent(1);
        hire.heater();
        hire.heater();
        dueNumbers(hire, 0, 3, 0, 0, 2, 2, 40, 12, 0, 0, 0, 0, 10, 10, 0, 7, 0);
    }

    private static void numberOfWhatIsPresent() {
        TubHire hire = new TubHire();
        hire.tub(1);
        hire.tub(2);
        hire.tub(3);
        hire.tent(1);
        hire.tent(9);
        hire.out(0, 1);
        hire.out(1, 0);
        hire.heater();
        hire.heater();
        hire.heat(1, 1);
        hire.tear(2, 0);
        hire.tear(2, 6);
        hire.tear(1, 3);
        hire.join(1);
        hire.join(1);
        hire.join(0);
        hire.pass(5);
        Checks.feed(hire, "out 9");
        dueNumbers(hire, 5, 3, 2, 3, 2, 2, 37, 9, 1, 2, 3, 1, 9, 20, 300, 8, 5);
    }

    private static void dueNumbers(TubHire hire, int... wanted) {
        for (int what = 0; what < wanted.length; what++) {
            Checks.due("number(" + what + ")", hire.number(what), wanted[what]);
        }
    }

    private static void towels() {
        TubHire hire = Checks.withWarmTub(9);
        Checks.due("towels() without guests", hire.towels(), 12);
        for (int i = 0; i < 4; i++) {
            hire.join(0);
            Checks.due("towels() with guests", hire.towels(), 12);
        }
        hire.pass(8);
        Checks.due("those who bathed", hire.number(11), 2);
        Checks.due("towels() with used ones", hire.towels(), 12);
        hire.wash(1);
        Checks.due("towels() with a washed one", hire.towels(), 12);
        hire.back(0);
        Checks.due("towels() of a tent without a tub", hire.towels(), 12);
    }

    private static void meanWarmth() {
        TubHire hire = new TubHire();
        Checks.fails("meanWarmth() without tubs", ArithmeticException.class, hire::meanWarmth);
        for (int i = 0; i < 4; i++) {
            hire.tub(1);
            hire.tent(0);
        }
        hire.out(0, 0);
        Checks.fails("meanWarmth() without water", ArithmeticException.class, hire::meanWarmth);
        hire.heater();
        hire.heat(0, 0);
        hire.pass(2);
        Checks.due("meanWarmth() of one", hire.meanWarmth(), 22.0);
        hire.out(1, 1);
        Checks.due("meanWarmth() of one, with another without water", hire.meanWarmth(), 22.0);
        hire.pass(1);
        Checks.due("meanWarmth() of two", hire.meanWarmth(), (34.0 + 10.0) / 2.0);
        hire.out(2, 2);
        hire.pass(2);
        Checks.due("meanWarmth() of three", hire.meanWarmth(), 78.0 / 3.0);
        hire.pass(1);
        hire.pass(1);
        Checks.due("meanWarmth() of a third", hire.meanWarmth(), 79.0 / 3.0);
        hire.back(0);
        Checks.due("meanWarmth() without the first", hire.meanWarmth(), 10.0);
    }

    private static void bathedShare() {
        TubHire hire = Checks.withWarmTub(9);
        Checks.fails("bathedShare() without guests", ArithmeticException.class, hire::bathedShare);
        hire.join(0);
        Checks.due("bathedShare() without baths", hire.bathedShare(), 0.0f);
        hire.join(0);
        hire.join(0);
        hire.pass(1);
        Checks.due("bathedShare() of a third", hire.bathedShare(), 1.0f / 3.0f);
        hire.pass(20);
        Checks.due("bathedShare() of all", hire.bathedShare(), 1.0f);
    }
}
