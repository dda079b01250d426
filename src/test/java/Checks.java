import java.util.Objects;

/** What the tests share: each wrong answer is printed, and one that was wrong ends the test with exit code 1. */
final class Checks {
    interface Call {
        void run();
    }

    private static int wrong = 0;
    private static String about = "";

    private Checks() {
    }

    static void due(String what, Object got, Object want) {
        if (!Objects.equals(got, want)) {
            wrong++;
            System.out.println(about + what + " answered " + got + ", due is " + want);
        }
    }

    /** Runs one test of many: what is wrong in it is told with its name, and the other ones go on. */
    static void named(String name, Call test) {
        about = name + ": ";
        due("the test", thrownBy(test), "no exception");
        about = "";
    }

    /** The call is due to throw an exception of just this class. */
    static void fails(String what, Class<? extends RuntimeException> kind, Call call) {
        due(what, thrownBy(call), kind.getSimpleName());
    }

    /** The call is due to be refused for a reason, with a detail. */
    static void refused(TubHire hire, String what, int reason, int detail, Call call) {
        fails(what, UnsupportedOperationException.class, call);
        due(what + ", the reason", reason(hire, true), reason);
        due(what + ", the detail", reason(hire, false), detail);
    }

    private static int reason(TubHire hire, boolean isReason) {
        try {
            return hire.refusal(isReason);
        } catch (java.util.NoSuchElementException e) {
            return -1;
        }
    }

    private static String thrownBy(Call call) {
        try {
            call.run();
        } catch (RuntimeException e) {
            return e.getClass().getSimpleName();
        }
        return "no exception";
    }

    static void feed(TubHire hire, String text) {
        for (int i = 0; i < text.length(); i++) {
            hire.feed(text.charAt(i));
        }
    }

    /** The line about a tent, as its characters tell it. */
    static String line(TubHire hire, int tent) {
        int length = hire.line(tent);
        StringBuilder line = new StringBuilder();
        for (int i = 0; i < length; i++) {
            line.append(hire.character(i));
        }
        fails("the character behind the line", IndexOutOfBoundsException.class, () -> hire.character(length));
        return line.toString();
    }

    /** A hirer with a tub of a size in a tent of a slope, each with the number 0. */
    static TubHire withTubOut(int size, int slope) {
        TubHire hire = new TubHire();
        hire.tub(size);
        hire.tent(slope);
        hire.out(0, 0);
        return hire;
    }

    /** A hirer whose tub 0 of size 1 in tent 0 has, with heater 0 at work, water of 46 degrees after 4 hours. */
    static TubHire withWarmTub(int slope) {
        TubHire hire = withTubOut(1, slope);
        hire.heater();
        hire.heat(0, 0);
        hire.pass(4);
        return hire;
    }

    /** A hirer whose tub 0 of a size in tent 0 has clean water of a warmth; heater 0 is in the store again. */
    static TubHire withWater(int size, int warmth) {
        TubHire hire = withTubOut(size, 0);
        hire.heater();
        hire.heat(0, 0);
        hire.pass(1);
        for (int i = 0; i < 60 && hire.tubOf(0, 4) < warmth; i++) {
            hire.pass(1);
        }
        hire.cold(0);
        for (int i = 0; i < 60 && hire.tubOf(0, 4) > warmth; i++) {
            hire.pass(1);
        }
        return hire;
    }

    /** A hirer whose tub 0 of a size in tent 0 is full of dirty water, as guest 0 has just bathed in it. */
    static TubHire withDirtyTub(int size, int slope) {
        TubHire hire = withTubOut(size, slope);
        hire.heater();
        hire.heat(0, 0);
        hire.join(0);
        due("the baths that make tub 0 dirty", hire.pass(3 + 2 * size), 1);
        return hire;
    }

    /** A hirer with as many tubs of size 1 and tents without slope, each with its heater, up to 4 of all. */
    static TubHire withTubs(int many) {
        TubHire hire = new TubHire();
        for (int i = 0; i < many; i++) {
            hire.tub(1);
            hire.tent(0);
            hire.heater();
        }
        return hire;
    }

    /** A hirer in whose tents 0 and 1 all the 12 towels wait with their guests; heater 0 is in tent 0. */
    static TubHire withoutTowels() {
        TubHire hire = withTubs(4);
        hire.out(0, 0);
        hire.out(1, 1);
        hire.heat(0, 0);
        for (int i = 0; i < 6; i++) {
            hire.join(0);
            hire.join(1);
        }
        return hire;
    }

    /** Lets one guest after the other bathe in a tub of size 1 in tent 0, which has a heater, mended where it must be. */
    static void takeBaths(TubHire hire, int tub, int baths) {
        for (int i = 0; i < baths; i++) {
            hire.back(tub);
            for (int seam = 0; seam < 8 && hire.tubOf(tub, 2) > 0; seam++) {
                hire.mend(tub, hire.torn(tub, 0));
            }
            hire.out(tub, 0);
            hire.gas(hire.tentOf(0, 2), 1);
            hire.join(0);
            due("the baths in 5 hours", hire.pass(5), 1);
            hire.wash(20);
        }
    }

    /** All that the face tells of what changes can change, as far as it has no calls of its own that can fail. */
    static String state(TubHire hire) {
        StringBuilder state = new StringBuilder();
        for (int what = 0; what < 16; what++) {
            state.append(hire.number(what)).append(' ');
        }
        for (int tub = 0; tub < hire.number(1); tub++) {
            for (int what = 0; what < 7; what++) {
                state.append(hire.tubOf(tub, what)).append(what < 6 ? ',' : ' ');
            }
        }
        for (int tent = 0; tent < hire.number(4); tent++) {
            for (int what = 0; what < 5; what++) {
                state.append(hire.tentOf(tent, what)).append(',');
            }
            for (int place = 0; place < hire.tentOf(tent, 3); place++) {
                state.append('g').append(hire.waiting(tent, place));
            }
            state.append(' ');
        }
        for (int heater = 0; heater < hire.number(5); heater++) {
            state.append(hire.heaterOf(heater, true)).append(',').append(hire.heaterOf(heater, false)).append(' ');
        }
        return state.toString();
    }

    static void end() {
        if (wrong > 0) {
            System.out.println(wrong + " answers are wrong");
            System.exit(1);
        }
    }
}
