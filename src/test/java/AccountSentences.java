/** The sentences of promises 25 to 30 that name a boundary case. */
final class AccountSentences {
    private AccountSentences() {
    }

    static void test(Sentences document) {
        document.holds(25, "Writes a line about a tent, in place of the line before:", AccountSentences::inPlaceOfALine);
        document.holds(25, "then \" no tub\",", AccountSentences::lineWithoutTub);
        document.holds(25, "or a blank, the tub, \" \", its litres and \"l\",", AccountSentences::lineWithoutWater);
        document.holds(25, "and, if there are some, a blank, their warmth, and \"c\",", AccountSentences::lineWithWater);
        document.holds(25, "and \" dirty\" if they are dirty;", AccountSentences::lineOfDirtyWater);
        document.holds(25, "then a blank, \"h\" and the gas of its heater, if it has one;",
                AccountSentences::lineWithHeater);
        document.holds(25, "and \" +\" and how many wait, if somebody does;", AccountSentences::lineWithGuests);
        document.holds(25, "as in \"1: 4 200l 34c h12 +3\".", AccountSentences::lineOfTheDocument);
        document.holds(25, "Returns the length of the line.", AccountSentences::lengthOfLine);
        document.holds(25, "Throws IndexOutOfBoundsException if there is no such tent", AccountSentences::lineOfNoTent);
        document.holds(26, "Returns a character of the line, which is empty at first.", AccountSentences::emptyLine);
        document.holds(26, "i: the number of the character, from 0", AccountSentences::characters);
        document.holds(26, "Throws IndexOutOfBoundsException if there is no such character",
                AccountSentences::noSuchCharacter);
        document.holds(27, "what: 0 the hour; 1 the tubs;", AccountSentences::numbers);
        document.holds(27, "2 those in tents;", AccountSentences::tubsInTents);
        document.holds(27, "3 the torn seams of all tubs;", AccountSentences::seamsOfAllTubs);
        document.holds(27, "6 the gas in all of them;", AccountSentences::gasInAll);
        document.holds(27, "9 the guests who wait; 10 the guests who came so far; 11 those who bathed so far;",
                AccountSentences::guestsInAll);
        document.holds(27, "14 the litres in all tubs;", AccountSentences::litresInAll);
        document.holds(27, "15 the changes that can be undone;", AccountSentences::changes);
        document.holds(27, "16 the characters of the input", AccountSentences::charactersOfInput);
        document.holds(27, "Throws IllegalArgumentException if what is out of range",
                AccountSentences::numberOutOfRange);
        document.holds(28, "Returns how many, 12.", AccountSentences::twelveTowels);
        document.holds(29, "Returns the mean warmth of the water of all tubs that have some:",
                AccountSentences::tubsThatHaveSome);
        document.holds(29, "the sum divided by their number, both converted to double.", AccountSentences::meanAsDouble);
        document.holds(29, "Throws ArithmeticException if none has", AccountSentences::noWater);
        document.holds(30, "Returns the share of the guests who came so far that bathed, both numbers converted to"
                + " float.", AccountSentences::shareAsFloat);
        document.holds(30, "Throws ArithmeticException if nobody came", AccountSentences::nobodyCame);
    }

    private static void inPlaceOfALine() {
        TubHire hire = Checks.withTubs(2);
        hire.out(0, 0);
        hire.heat(0, 0);
        hire.pass(4);
        Checks.due("the longer line", Checks.line(hire, 0), "0: 0 100l 46c h17");
        Checks.due("the shorter line", Checks.line(hire, 1), "1: no tub");
        Checks.due("the longer line again", Checks.line(hire, 0), "0: 0 100l 46c h17");
    }

    private static void lineWithoutTub() {
        TubHire hire = Checks.withTubs(1);
        Checks.due("the line", Checks.line(hire, 0), "0: no tub");
        hire.out(0, 0);
        hire.join(0);
        hire.heat(0, 0);
        hire.back(0);
        Checks.due("the line with all else", Checks.line(hire, 0), "0: no tub h20 +1");
    }

    private static void lineWithoutWater() {
        TubHire hire = Checks.withTubs(4);
        hire.out(3, 2);
        Checks.due("the line", Checks.line(hire, 2), "2: 3 0l");
        TubHire drained = Checks.withDirtyTub(1, 9);
        drained.cold(0);
        drained.pass(1);
        Checks.due("the line when all is drained", Checks.line(drained, 0), "0: 0 0l");
    }

    private static void lineWithWater() {
        TubHire hire = Checks.withTubOut(3, 0);
        Checks.due("the line of none", Checks.line(hire, 0), "0: 0 0l");
        hire.pass(1);
        Checks.due("the line of 300 litres", Checks.line(hire, 0), "0: 0 300l 10c");
        TubHire warm = Checks.withWater(1, 60);
        Checks.due("the line of 60 degrees", Checks.line(warm, 0), "0: 0 100l 60c");
        TubHire dirty = Checks.withDirtyTub(1, 7);
        dirty.cold(0);
        dirty.tear(0, 4);
        dirty.pass(1);
        Checks.due("the line of the last litres", Checks.line(dirty, 0), "0: 0 5l 46c dirty");
    }

    private static void lineOfDirtyWater() {
        TubHire hire = Checks.withWater(1, 40);
        hire.join(0);
        Checks.due("the line before the bath", Checks.line(hire, 0), "0: 0 100l 40c +1");
        hire.pass(1);
        Checks.due("the line after the bath", Checks.line(hire, 0), "0: 0 100l 40c dirty");
        hire.pass(4);
        Checks.due("the line of the last litres", Checks.line(hire, 0), "0: 0 20l 40c dirty");
        hire.pass(1);
        Checks.due("the line when all is drained", Checks.line(hire, 0), "0: 0 0l");
    }

    private static void lineWithHeater() {
        TubHire hire = Checks.withTubOut(1, 0);
        hire.heater();
        Checks.due("the line with a heater in the store", Checks.line(hire, 0), "0: 0 0l");
        hire.heat(0, 0);
        Checks.due("the line with a heater", Checks.line(hire, 0), "0: 0 0l h20");
        hire.gas(0, 8);
        Checks.due("the line with the most gas", Checks.line(hire, 0), "0: 0 0l h60");
        hire.undo();
        hire.pass(36);
        Checks.due("the line without gas", Checks.line(hire, 0), "0: 0 100l 60c h0");
        hire.cold(0);
        Checks.due("the line without a heater", Checks.line(hire, 0), "0: 0 100l 60c");
    }

    private static void lineWithGuests() {
        TubHire hire = Checks.withTubs(2);
        hire.out(1, 0);
        for (int guests = 1; guests <= 6; guests++) {
            hire.join(0);
            Checks.due("the line with guests", Checks.line(hire, 0), "0: 1 0l +" + guests);
        }
        Checks.due("the line of another tent", Checks.line(hire, 1), "1: no tub");
    }

    private static void lineOfTheDocument() {
        TubHire hire = new TubHire();
        for (int i = 0; i < 5; i++) {
            hire.tub(2);
        }
        hire.tent(0);
        hire.tent(0);
        hire.heater();
        hire.heat(0, 1);
        hire.out(4, 1);
        hire.pass(5);
        hire.back(4);
        hire.out(4, 1);
        hire.pass(5);
        for (int i = 0; i < 3; i++) {
            hire.join(1);
        }
        Checks.due("the line", Checks.line(hire, 1), "1: 4 200l 34c h12 +3");
    }

    private static void lengthOfLine() {
        TubHire hire = Checks.withTubs(1);
        Checks.due("the length of 0: no tub", hire.line(0), 9);
        hire.out(0, 0);
        Checks.due("the length of 0: 0 0l", hire.line(0), 7);
        hire.heat(0, 0);
        hire.join(0);
        hire.join(0);
        hire.pass(5);
        Checks.due("the length of 0: 0 100l 46c dirty h17 +1", hire.line(0), 26);
    }

    private static void lineOfNoTent() {
        TubHire hire = Checks.withTubs(1);
        hire.line(0);
        for (int wrong : new int[] {-1, 1, 5, Integer.MIN_VALUE, Integer.MAX_VALUE}) {
            Checks.fails("line(" + wrong + ")", IndexOutOfBoundsException.class, () -> hire.line(wrong));
        }
        Checks.due("the line that stays", hire.character(8), 'b');
    }

    private static void emptyLine() {
        TubHire hire = Checks.withTubs(1);
        Checks.fails("character(0)", IndexOutOfBoundsException.class, () -> hire.character(0));
        hire.line(0);
        Checks.due("character(0) of a line", hire.character(0), '0');
    }

    private static void characters() {
        TubHire hire = Checks.withTubs(1);
        String line = "0: no tub";
        Checks.due("the length", hire.line(0), line.length());
        for (int i = 0; i < line.length(); i++) {
            Checks.due("character(" + i + ")", hire.character(i), line.charAt(i));
        }
    }

    private static void noSuchCharacter() {
        TubHire hire = Checks.withTubs(1);
        hire.line(0);
        for (int wrong : new int[] {-1, 9, 10, Integer.MIN_VALUE, Integer.MAX_VALUE}) {
            Checks.fails("character(" + wrong + ")", IndexOutOfBoundsException.class, () -> hire.character(wrong));
        }
        hire.out(0, 0);
        Checks.due("the shorter line", hire.line(0), 7);
        Checks.fails("character(7) of the shorter line", IndexOutOfBoundsException.class, () -> hire.character(7));
        Checks.due("character(6) of the shorter line", hire.character(6), 'l');
    }

    private static void numbers() {
        TubHire hire = Checks.withTubs(2);
        hire.tent(4);
        hire.tub(3);
        hire.tub(2);
        hire.heater();
        hire.out(2, 0);
        hire.out(0, 1);
        hire.heat(1, 1);
        hire.tear(3, 0);
        hire.tear(3, 6);
        hire.tear(1, 7);
        hire.join(1);
        hire.join(1);
        hire.join(0);
        hire.pass(5);
        Checks.feed(hire, "out");
        int[] due = {5, 4, 2, 3, 3, 3, 57, 9, 1, 2, 3, 1, 9, 22, 400, 8, 3};
        for (int what = 0; what < due.length; what++) {
            Checks.due("number(" + what + ")", hire.number(what), due[what]);
        }
    }

    private static void tubsInTents() {
        TubHire hire = Checks.withTubs(4);
        hire.tent(0);
        hire.tub(1);
        Checks.due("none in tents", hire.number(2), 0);
        for (int i = 0; i < 5; i++) {
            hire.out(i, 4 - i);
            Checks.due("those in tents", hire.number(2), i + 1);
        }
        hire.back(4);
        Checks.due("those in tents after one is back", hire.number(2), 4);
    }

    private static void seamsOfAllTubs() {
        TubHire hire = new TubHire();
        for (int tub = 0; tub < 8; tub++) {
            hire.tub(1);
            for (int seam = 0; seam < 8; seam++) {
                hire.tear(tub, seam);
            }
            Checks.due("the torn seams of " + (tub + 1) + " tubs", hire.number(3), 8 * tub + 8);
        }
        hire.mend(7, 7);
        Checks.due("the torn seams after one is mended", hire.number(3), 63);
    }

    private static void gasInAll() {
        TubHire hire = new TubHire();
        for (int heaters = 0; heaters < 4; heaters++) {
            Checks.due("the gas in " + heaters, hire.number(6), 20 * heaters);
            hire.heater();
        }
        hire.gas(3, 8);
        Checks.due("the gas in 4", hire.number(6), 120);
    }

    private static void guestsInAll() {
        TubHire hire = Checks.withoutTowels();
        Checks.due("who waits", hire.number(9), 12);
        Checks.due("who came", hire.number(10), 12);
        Checks.due("who bathed", hire.number(11), 0);
        hire.pass(5);
        Checks.due("who waits after a bath", hire.number(9), 11);
        Checks.due("who came after a bath", hire.number(10), 12);
        Checks.due("who bathed after a bath", hire.number(11), 1);
    }

    private static void litresInAll() {
        TubHire hire = new TubHire();
        for (int i = 0; i < 5; i++) {
            hire.tub(3);
            hire.tent(0);
            hire.out(i, i);
        }
        Checks.due("no litres", hire.number(14), 0);
        hire.pass(1);
        Checks.due("the litres in 5 tubs", hire.number(14), 1500);
        hire.back(4);
        Checks.due("the litres in 4 tubs", hire.number(14), 1200);
    }

    private static void changes() {
        TubHire hire = new TubHire();
        for (int changes = 0; changes < 12; changes++) {
            Checks.due("the changes", hire.number(15), Math.min(8, changes));
            hire.pass(1);
        }
        hire.undo();
        Checks.due("the changes after undo()", hire.number(15), 7);
        hire.saveSnapshot();
        hire.restoreSnapshot();
        Checks.due("the changes after restoreSnapshot()", hire.number(15), 0);
    }

    private static void charactersOfInput() {
        TubHire hire = new TubHire();
        for (int characters = 0; characters < 60; characters++) {
            Checks.due("the characters", hire.number(16), characters);
            hire.feed('a');
        }
        Checks.fails("feed('a')", IllegalStateException.class, () -> hire.feed('a'));
        Checks.due("the characters when it is full", hire.number(16), 60);
        Checks.fails("read()", IllegalArgumentException.class, hire::read);
        Checks.due("the characters after read()", hire.number(16), 0);
    }

    private static void numberOutOfRange() {
        TubHire hire = new TubHire();
        for (int what : new int[] {-1, 17, Integer.MIN_VALUE, Integer.MAX_VALUE}) {
            Checks.fails("number(" + what + ")", IllegalArgumentException.class, () -> hire.number(what));
        }
        Checks.due("number(0)", hire.number(0), 0);
        Checks.due("number(16)", hire.number(16), 0);
    }

    private static void twelveTowels() {
        TubHire hire = Checks.withoutTowels();
        Checks.due("towels() at first", new TubHire().towels(), 12);
        Checks.due("towels() without clean ones", hire.towels(), 12);
        hire.pass(5);
        Checks.due("towels() with a used one", hire.towels(), 12);
        hire.pass(10);
        Checks.due("towels() with two used ones", hire.towels(), 12);
        hire.wash(1);
        Checks.due("towels() with a washed one", hire.towels(), 12);
        hire.join(0);
        Checks.due("towels() with another guest", hire.towels(), 12);
        hire.undo();
        Checks.due("towels() after undo()", hire.towels(), 12);
    }

    private static void tubsThatHaveSome() {
        TubHire hire = Checks.withWater(1, 50);
        hire.tub(1);
        hire.tent(0);
        Checks.due("meanWarmth() of one, with a tub in the store", hire.meanWarmth(), 50.0);
        hire.out(1, 1);
        Checks.due("meanWarmth() of one, with a tub without water", hire.meanWarmth(), 50.0);
        hire.pass(1);
        Checks.due("meanWarmth() of two", hire.meanWarmth(), 29.5);
        hire.back(0);
        Checks.due("meanWarmth() of the other one", hire.meanWarmth(), 10.0);
    }

    private static void meanAsDouble() {
        TubHire hire = Checks.withWater(1, 50);
        for (int i = 1; i < 3; i++) {
            hire.tub(1);
            hire.tent(0);
            hire.out(i, i);
        }
        hire.pass(1);
        Checks.due("meanWarmth() of 49, 10 and 10", hire.meanWarmth(), 69.0 / 3.0);
        hire.pass(1);
        Checks.due("meanWarmth() of 48, 10 and 10", hire.meanWarmth(), 68.0 / 3.0);
    }

    private static void noWater() {
        TubHire hire = new TubHire();
        Checks.fails("meanWarmth() without tubs", ArithmeticException.class, hire::meanWarmth);
        hire.tub(1);
        hire.tent(0);
        Checks.fails("meanWarmth() with a tub in the store", ArithmeticException.class, hire::meanWarmth);
        hire.out(0, 0);
        Checks.fails("meanWarmth() with a tub without water", ArithmeticException.class, hire::meanWarmth);
        hire.pass(1);
        Checks.due("meanWarmth() with water", hire.meanWarmth(), 10.0);
    }

    private static void shareAsFloat() {
        TubHire hire = Checks.withTubs(1);
        hire.out(0, 0);
        hire.heat(0, 0);
        for (int i = 0; i < 3; i++) {
            hire.join(0);
        }
        Checks.due("bathedShare() of none", hire.bathedShare(), 0.0f);
        hire.pass(5);
        Checks.due("bathedShare() of one in three", hire.bathedShare(), 1.0f / 3.0f);
        hire.pass(10);
        Checks.due("bathedShare() of two in three", hire.bathedShare(), 2.0f / 3.0f);
        hire.pass(10);
        Checks.due("bathedShare() of all", hire.bathedShare(), 1.0f);
    }

    private static void nobodyCame() {
        TubHire hire = Checks.withTubs(1);
        Checks.fails("bathedShare()", ArithmeticException.class, hire::bathedShare);
        hire.out(0, 0);
        hire.join(0);
        Checks.due("bathedShare() of one who came", hire.bathedShare(), 0.0f);
        hire.undo();
        Checks.fails("bathedShare() of one who was undone", ArithmeticException.class, hire::bathedShare);
    }
}
