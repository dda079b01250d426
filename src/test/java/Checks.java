import java.util.Objects;

/** What the tests share: each wrong answer is printed, and one that was wrong ends the test with exit code 1. */
final class Checks {
    interface Call {
        void run();
    }

    private static int wrong = 0;

    private Checks() {
    }

    static void due(String what, Object got, Object want) {
        if (!Objects.equals(got, want)) {
            wrong++;
            System.out.println(what + " answered " + got + ", due is " + want);
        }
    }

    /** The call is due to throw an exception of just this class. */
    static void fails(String what, Class<? extends RuntimeException> kind, Call call) {
        due(what, thrownBy(call), kind.getSimpleName());
    }

    /** The call is due to be refused for a reason, with a detail. */
    static void refused(TubHire hire, String what, int reason, int detail, Call call) {
        fails(what, UnsupportedOperationException.class, call);
        due(what + ", the reason", reason(hire, true), reason);
        due(what + ", the detail", reason(hire, false), detail);
    }

    private static int reason(TubHire hire, boolean isReason) {
        try {
            return hire.refusal(isReason);
        } catch (java.util.NoSuchElementException e) {
            return -1;
        }
    }

    private static String thrownBy(Call call) {
        try {
            call.run();
        } catch (RuntimeException e) {
            return e.getClass().getSimpleName();
        }
        return "no exception";
    }

    static void feed(TubHire hire, String text) {
        for (int i = 0; i < text.length(); i++) {
            hire.feed(text.charAt(i));
        }
    }

    /** The line about a tent, as its characters tell it. */
    static String line(TubHire hire, int tent) {
        int length = hire.line(tent);
        StringBuilder line = new StringBuilder();
        for (int i = 0; i < length; i++) {
            line.append(hire.character(i));
        }
        fails("the character behind the line", IndexOutOfBoundsException.class, () -> hire.character(length));
        return line.toString();
    }

    /** A hirer with a tub of a size in a tent of a slope, each with the number 0. */
    static TubHire withTubOut(int size, int slope) {
        TubHire hire = new TubHire();
        hire.tub(size);
        hire.tent(slope);
        hire.out(0, 0);
        return hire;
    }

    /** A hirer whose tub 0 of size 1 in tent 0 has, with heater 0 at work, water of 46 degrees after 4 hours. */
    static TubHire withWarmTub(int slope) {
        TubHire hire = withTubOut(1, slope);
        hire.heater();
        hire.heat(0, 0);
        hire.pass(4);
        return hire;
    }

    /** Lets one guest after the other bathe in a tub of size 1 in tent 0, which has a heater, mended where it must be. */
    static void takeBaths(TubHire hire, int tub, int baths) {
        for (int i = 0; i < baths; i++) {
            hire.back(tub);
            while (hire.tubOf(tub, 2) > 0) {
                hire.mend(tub, hire.torn(tub, 0));
            }
            hire.out(tub, 0);
            hire.gas(hire.tentOf(0, 2), 1);
            hire.join(0);
            due("the baths in 5 hours", hire.pass(5), 1);
            hire.wash(20);
        }
    }

    static void end() {
        if (wrong > 0) {
            System.out.println(wrong + " answers are wrong");
            System.exit(1);
        }
    }
}
