import java.util.NoSuchElementException;

/** Promises 1 to 9: a new object, and tubs. */
public final class TubsTest {
    public static void main(String[] args) {
        newObject();
        tub();
        tubOf();
        torn();
        tear();
        mend();
        bestTub();
        out();
        back();
        Checks.end();
    }

    private static void newObject() {
        TubHire hire = new TubHire();
        int[] first = {0, 0, 0, 0, 0, 0, 0, 12, 0, 0, 0, 0, 10, 10, 0, 0, 0};
        for (int what = 0; what < first.length; what++) {
            Checks.due("number(" + what + ") of a new object", hire.number(what), first[what]);
        }
        Checks.fails("tubOf of a new object", IndexOutOfBoundsException.class, () -> hire.tubOf(0, 0));
        Checks.fails("tentOf of a new object", IndexOutOfBoundsException.class, () -> hire.tentOf(0, 0));
        Checks.fails("heaterOf of a new object", IndexOutOfBoundsException.class, () -> hire.heaterOf(0, true));
    }

    private static void tub() {
        TubHire hire = new TubHire();
        Checks.fails("tub(0)", IllegalArgumentException.class, () -> hire.tub(0));
        Checks.fails("tub(4)", IllegalArgumentException.class, () -> hire.tub(4));
        Checks.fails("tub(least)", IllegalArgumentException.class, () -> hire.tub(Integer.MIN_VALUE));
        Checks.fails("a refusal after them", NoSuchElementException.class, () -> hire.refusal(true));
        for (int i = 0; i < 8; i++) {
            Checks.due("tub " + i, hire.tub(i % 3 + 1), i);
            Checks.due("its size", hire.tubOf(i, 0), i % 3 + 1);
        }
        Checks.refused(hire, "a ninth tub", 1, 8, () -> hire.tub(1));
        Checks.fails("a ninth tub of no size", IllegalArgumentException.class, () -> hire.tub(0));
        Checks.due("the tubs", hire.number(1), 8);
    }

    private static void tubOf() {
        TubHire hire = new TubHire();
        hire.tub(2);
        hire.tub(3);
        hire.tear(1, 0);
        hire.tear(1, 7);
        dueOf(hire, 0, 2, -1, 0, 0, 0, 0, 0);
        dueOf(hire, 1, 3, -1, 129, 0, 0, 0, 0);
        hire.tent(1);
        hire.tent(2);
        hire.out(0, 1);
        dueOf(hire, 0, 2, 1, 0, 0, 0, 0, 0);
        hire.pass(1);
        dueOf(hire, 0, 2, 1, 0, 200, 10, 0, 0);
        Checks.fails("tubOf(2, 0)", IndexOutOfBoundsException.class, () -> hire.tubOf(2, 0));
        Checks.fails("tubOf(-1, 0)", IndexOutOfBoundsException.class, () -> hire.tubOf(-1, 0));
        Checks.fails("tubOf(-1, 7)", IndexOutOfBoundsException.class, () -> hire.tubOf(-1, 7));
        Checks.fails("tubOf(8, 0)", IndexOutOfBoundsException.class, () -> hire.tubOf(8, 0));
        Checks.fails("tubOf(0, 7)", IllegalArgumentException.class, () -> hire.tubOf(0, 7));
        Checks.fails("tubOf(0, -1)", IllegalArgumentException.class, () -> hire.tubOf(0, -1));
        TubHire warm = Checks.withWarmTub(0);
        warm.join(0);
        warm.pass(1);
        dueOf(warm, 0, 1, 0, 0, 100, 46, 1, 1);
        warm.pass(5);
        dueOf(warm, 0, 1, 0, 0, 0, 0, 0, 1);
    }

    private static void dueOf(TubHire hire, int tub, int... wanted) {
        for (int what = 0; what < wanted.length; what++) {
            Checks.due("tubOf(" + tub + ", " + what + ")", hire.tubOf(tub, what), wanted[what]);
        }
    }

    private static void torn() {
        TubHire hire = new TubHire();
        hire.tub(1);
        Checks.fails("torn(0, 0) of a whole tub", NoSuchElementException.class, () -> hire.torn(0, 0));
        hire.tear(0, 2);
        hire.tear(0, 5);
        Checks.due("torn(0, 0)", hire.torn(0, 0), 2);
        Checks.due("torn(0, 2)", hire.torn(0, 2), 2);
        Checks.due("torn(0, 3)", hire.torn(0, 3), 5);
        Checks.fails("torn(0, 6)", NoSuchElementException.class, () -> hire.torn(0, 6));
        Checks.fails("torn(0, 7)", NoSuchElementException.class, () -> hire.torn(0, 7));
        hire.tear(0, 7);
        Checks.due("torn(0, 7)", hire.torn(0, 7), 7);
        Checks.fails("torn(0, 8)", IndexOutOfBoundsException.class, () -> hire.torn(0, 8));
        Checks.fails("torn(0, -1)", IndexOutOfBoundsException.class, () -> hire.torn(0, -1));
        Checks.fails("torn(1, 0)", IndexOutOfBoundsException.class, () -> hire.torn(1, 0));
        Checks.fails("torn(-1, 0)", IndexOutOfBoundsException.class, () -> hire.torn(-1, 0));
    }

    private static void tear() {
        TubHire hire = Checks.withTubOut(1, 0);
        Checks.due("tear(0, 3)", hire.tear(0, 3), 1);
        Checks.due("tear(0, 3) again", hire.tear(0, 3), 1);
        Checks.due("tear(0, 0)", hire.tear(0, 0), 2);
        Checks.due("tear(0, 7)", hire.tear(0, 7), 3);
        Checks.due("the seams", hire.tubOf(0, 2), 137);
        Checks.fails("tear(0, 8)", IndexOutOfBoundsException.class, () -> hire.tear(0, 8));
        Checks.fails("tear(0, -1)", IndexOutOfBoundsException.class, () -> hire.tear(0, -1));
        Checks.fails("tear(1, 0)", IndexOutOfBoundsException.class, () -> hire.tear(1, 0));
        Checks.fails("tear(-1, 0)", IndexOutOfBoundsException.class, () -> hire.tear(-1, 0));
    }

    private static void mend() {
        TubHire hire = Checks.withTubOut(2, 0);
        hire.tear(0, 1);
        hire.tear(0, 4);
        Checks.due("mend(0, 1) in a tent without water", hire.mend(0, 1), 1);
        Checks.due("the coins then", hire.number(13), 12);
        Checks.due("the seams then", hire.tubOf(0, 2), 16);
        Checks.refused(hire, "mend(0, 1) again", 11, 1, () -> hire.mend(0, 1));
        hire.pass(1);
        Checks.refused(hire, "mend(0, 4) with water", 14, 200, () -> hire.mend(0, 4));
        Checks.refused(hire, "mend(0, 0) with water", 11, 0, () -> hire.mend(0, 0));
        Checks.fails("mend(0, 8)", IndexOutOfBoundsException.class, () -> hire.mend(0, 8));
        Checks.fails("mend(0, -1)", IndexOutOfBoundsException.class, () -> hire.mend(0, -1));
        Checks.fails("mend(1, 0)", IndexOutOfBoundsException.class, () -> hire.mend(1, 0));
        Checks.fails("mend(-1, 0)", IndexOutOfBoundsException.class, () -> hire.mend(-1, 0));
        hire.soap(11);
        Checks.refused(hire, "mend(0, 4) with water and 1 coin", 14, 200, () -> hire.mend(0, 4));
        hire.back(0);
        Checks.refused(hire, "mend(0, 4) with 1 coin", 12, 1, () -> hire.mend(0, 4));
        hire.soap(1);
        Checks.refused(hire, "mend(0, 4) without coins", 12, 2, () -> hire.mend(0, 4));
        Checks.due("the seams after that", hire.tubOf(0, 2), 16);
        TubHire rich = new TubHire();
        rich.tub(1);
        rich.tear(0, 7);
        rich.soap(8);
        Checks.due("mend(0, 7) with 2 coins", rich.mend(0, 7), 0);
        Checks.due("the coins after it", rich.number(13), 0);
    }

    private static void bestTub() {
        TubHire hire = new TubHire();
        Checks.fails("bestTub() without tubs", NoSuchElementException.class, hire::bestTub);
        hire.tub(1);
        hire.tub(2);
        hire.tub(2);
        hire.tub(3);
        Checks.due("bestTub()", hire.bestTub(), 3);
        hire.tear(3, 0);
        Checks.due("bestTub() with the greatest one torn", hire.bestTub(), 1);
        hire.tent(9);
        hire.out(1, 0);
        Checks.due("bestTub() with tub 1 out", hire.bestTub(), 2);
        hire.heater();
        hire.heat(0, 0);
        hire.join(0);
        hire.pass(10);
        Checks.due("the baths of tub 1", hire.tubOf(1, 6), 1);
        hire.back(1);
        Checks.due("bestTub() with tub 1 used", hire.bestTub(), 2);
        hire.tear(2, 5);
        Checks.due("bestTub() with tub 2 torn", hire.bestTub(), 1);
        hire.tear(1, 5);
        Checks.due("bestTub() with tub 0 alone", hire.bestTub(), 0);
        hire.out(0, 0);
        Checks.fails("bestTub() with none", NoSuchElementException.class, hire::bestTub);
    }

    private static void out() {
        TubHire hire = new TubHire();
        for (int size = 1; size <= 3; size++) {
            hire.tub(size);
            hire.tent(0);
        }
        Checks.due("out(0, 2)", hire.out(0, 2), 12);
        Checks.due("its tent", hire.tubOf(0, 1), 2);
        Checks.due("the tub of the tent", hire.tentOf(2, 1), 0);
        Checks.refused(hire, "out(0, 1) from a tent", 2, 2, () -> hire.out(0, 1));
        hire.tear(0, 3);
        Checks.refused(hire, "out(0, 2) from a tent, torn", 2, 2, () -> hire.out(0, 2));
        hire.tear(1, 6);
        hire.tear(1, 4);
        Checks.refused(hire, "out(1, 2), torn", 3, 4, () -> hire.out(1, 2));
        Checks.refused(hire, "out(2, 2) to a tub", 4, 0, () -> hire.out(2, 2));
        hire.tear(1, 0);
        Checks.refused(hire, "out(1, 2), torn at seam 0", 3, 0, () -> hire.out(1, 2));
        hire.mend(1, 0);
        Checks.due("the coins after that", hire.number(13), 10);
        Checks.due("out(2, 0)", hire.out(2, 0), 16);
        Checks.refused(hire, "out(2, 2) from tent 0", 2, 0, () -> hire.out(2, 2));
        hire.mend(1, 4);
        hire.mend(1, 6);
        Checks.due("out(1, 1)", hire.out(1, 1), 16);
        Checks.due("the tubs in tents", hire.number(2), 3);
        Checks.fails("out(3, 0)", IndexOutOfBoundsException.class, () -> hire.out(3, 0));
        Checks.fails("out(-1, 0)", IndexOutOfBoundsException.class, () -> hire.out(-1, 0));
        Checks.fails("out(0, 3)", IndexOutOfBoundsException.class, () -> hire.out(0, 3));
        Checks.fails("out(0, -1)", IndexOutOfBoundsException.class, () -> hire.out(0, -1));
    }

    private static void back() {
        TubHire hire = Checks.withTubOut(3, 0);
        hire.tub(1);
        hire.join(0);
        Checks.due("back(0) without water", hire.back(0), 0);
        Checks.refused(hire, "back(0) again", 5, 0, () -> hire.back(0));
        Checks.refused(hire, "back(1)", 5, 1, () -> hire.back(1));
        hire.out(0, 0);
        hire.pass(1);
        hire.tear(0, 1);
        Checks.due("back(0) with water", hire.back(0), 300);
        Checks.due("its litres", hire.tubOf(0, 3), 0);
        Checks.due("its tent", hire.tubOf(0, 1), -1);
        Checks.due("the tub of the tent", hire.tentOf(0, 1), -1);
        Checks.due("who waits on", hire.waiting(0, 0), 0);
        Checks.fails("back(2)", IndexOutOfBoundsException.class, () -> hire.back(2));
        Checks.fails("back(-1)", IndexOutOfBoundsException.class, () -> hire.back(-1));
        TubHire dirty = Checks.withWarmTub(0);
        dirty.join(0);
        dirty.pass(1);
        Checks.due("back of a dirty tub", dirty.back(0), 100);
        Checks.due("whether it is dirty then", dirty.tubOf(0, 5), 0);
        dirty.out(0, 0);
        Checks.due("its litres when it goes out again", dirty.tubOf(0, 3), 0);
        dirty.pass(1);
        Checks.due("its warmth after it", dirty.tubOf(0, 4), 10);
    }
}
