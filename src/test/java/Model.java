import java.util.ArrayDeque;
import java.util.ArrayList;
import java.util.Deque;
import java.util.List;
import java.util.function.IntSupplier;
import java.util.regex.Matcher;
import java.util.regex.Pattern;

/**
 * A second TubHire, written from the document alone and with no eye on the first one: a list of numbers for each thing,
 * lists that are copied whole for undo, and a regular expression for the grammar. A call is told by its name and two
 * arguments, and its answer as a text.
 */
final class Model {
    private static final String COMMAND =
            "(?:(?:out|heat|mend) [0-9] [0-9]|(?:back|cold|join) [0-9]|(?:wash|soap|hours) [0-9][0-9]?)";
    private static final Pattern TEXT = Pattern.compile(COMMAND + "(?:;" + COMMAND + ")*");

    private static final String NO_INDEX = "IndexOutOfBoundsException";
    private static final String NO_ARGUMENT = "IllegalArgumentException";
    private static final String NO_STATE = "IllegalStateException";
    private static final String NO_ELEMENT = "NoSuchElementException";
    private static final String REFUSED = "UnsupportedOperationException";

    /** Ends a call; never leaves the model. */
    private static final class Stop extends RuntimeException {
        private static final long serialVersionUID = 1L;
        final String name;

        Stop(String name) {
            super(name, null, false, false);
            this.name = name;
        }
    }

    /** Everything that changes can change. */
    private static final class World {
        List<int[]> tubs = new ArrayList<>();      // size, tent, seams, litres, warmth, dirty, baths
        List<int[]> tents = new ArrayList<>();     // slope, bathed
        List<int[]> heaters = new ArrayList<>();   // gas, tent
        List<int[]> guests = new ArrayList<>();    // tent, whether bathed
        int hour = 0;
        int used = 0;
        int soap = 10;
        int coins = 10;

        World copy() {
            World copy = new World();
            copyRows(tubs, copy.tubs);
            copyRows(tents, copy.tents);
            copyRows(heaters, copy.heaters);
            copyRows(guests, copy.guests);
            copy.hour = hour;
            copy.used = used;
            copy.soap = soap;
            copy.coins = coins;
            return copy;
        }

        private static void copyRows(List<int[]> from, List<int[]> to) {
            for (int[] row : from) {
                to.add(row.clone());
            }
        }

        int tubIn(int tent) {
            for (int i = 0; i < tubs.size(); i++) {
                if (tubs.get(i)[1] == tent) {
                    return i;
                }
            }
            return -1;
        }

        int heaterIn(int tent) {
            for (int i = 0; i < heaters.size(); i++) {
                if (heaters.get(i)[1] == tent) {
                    return i;
                }
            }
            return -1;
        }

        List<Integer> queue(int tent) {
            List<Integer> queue = new ArrayList<>();
            for (int i = 0; i < guests.size(); i++) {
                if (guests.get(i)[0] == tent && guests.get(i)[1] == 0) {
                    queue.add(i);
                }
            }
            return queue;
        }

        int waiting() {
            return (int) guests.stream().filter(guest -> guest[1] == 0).count();
        }

        int clean() {
            return 12 - used - waiting();
        }

        void hour() {
            hour++;
            for (int tent = 0; tent < tents.size(); tent++) {
                if (tubIn(tent) >= 0) {
                    hourIn(tent, tubIn(tent));
                }
            }
        }

        private void hourIn(int tent, int number) {
            int[] tub = tubs.get(number);
            List<Integer> queue = queue(tent);
            int heater = heaterIn(tent);
            tub[3] -= Math.min(tub[3], 5 * Integer.bitCount(tub[2]));
            if (tub[5] == 1) {
                tub[3] -= Math.min(tub[3], 20 + 10 * tents.get(tent)[0]);
                tub[5] = tub[3] == 0 ? 0 : 1;
                return;
            }
            if (tub[3] != 100 * tub[0]) {
                tub[4] = tub[3] == 0 ? 10 : Math.max(10, tub[4] - 5);
                tub[3] = 100 * tub[0];
                return;
            }
            if (tub[4] >= 38 && !queue.isEmpty() && soap > 0) {
                soap--;
                coins += tub[4] >= 45 ? 4 : 3;
                guests.get(queue.get(0))[1] = 1;
                used++;
                tents.get(tent)[1]++;
                tub[5] = 1;
                tub[6]++;
                if (tub[6] % 4 == 0) {
                    tub[2] |= 1 << (number + tub[6]) % 8;
                }
                return;
            }
            if (heater >= 0 && heaters.get(heater)[0] > 0 && tub[4] < 60) {
                heaters.get(heater)[0]--;
                tub[4] = Math.min(60, tub[4] + 12 / tub[0]);
                return;
            }
            tub[4] = Math.max(10, tub[4] - 1);
        }
    }

    private World world = new World();
    private World snapshot = null;
    private final Deque<World> past = new ArrayDeque<>();
    private String input = "";
    private String line = "";
    private int fault = -1;
    private int reason = 0;
    private int detail = 0;

    String answer(String call, int a, int b) {
        try {
            switch (call) {
                case "meanWarmth":
                    return meanWarmth();
                case "bathedShare":
                    if (world.guests.isEmpty()) {
                        return "ArithmeticException";
                    }
                    return "" + (float) (world.guests.size() - world.waiting()) / (float) world.guests.size();
                default:
                    return "" + number(call, a, b);
            }
        } catch (Stop stop) {
            return stop.name;
        }
    }

    private int number(String call, int a, int b) {
        switch (call) {
            case "tub": case "tent": case "heater": case "out": case "back": case "heat": case "cold": case "join":
            case "tear": case "mend": case "wash": case "soap": case "gas": case "pass":
                return changed(() -> change(call, a, b));
            case "read":
                return read();
            case "undo":
                need(!past.isEmpty(), NO_STATE);
                world = past.removeLast();
                return past.size();
            case "saveSnapshot":
                snapshot = world.copy();
                return world.tubs.size();
            case "restoreSnapshot":
                need(snapshot != null, NO_STATE);
                world = snapshot.copy();
                past.clear();
                return world.tubs.size();
            case "feed":
                need(input.length() < 60, NO_STATE);
                input += (char) a;
                return input.length();
            default:
                return asked(call, a, b);
        }
    }

    private static void need(boolean holds, String otherwise) {
        if (!holds) {
            throw new Stop(otherwise);
        }
    }

    private void refuseIf(boolean holds, int why, int with) {
        if (holds) {
            reason = why;
            detail = with;
            throw new Stop(REFUSED);
        }
    }

    private int changed(IntSupplier change) {
        World before = world.copy();
        try {
            int answer = change.getAsInt();
            past.addLast(before);
            if (past.size() > 8) {
                past.removeFirst();
            }
            return answer;
        } catch (Stop stop) {
            world = before;
            throw stop;
        }
    }

    private static boolean in(int a, List<?> list) {
        return a >= 0 && a < list.size();
    }

    private int change(String call, int a, int b) {
        switch (call) {
            case "tub":
                need(a >= 1 && a <= 3, NO_ARGUMENT);
                refuseIf(world.tubs.size() == 8, 1, 8);
                world.tubs.add(new int[] {a, -1, 0, 0, 10, 0, 0});
                return world.tubs.size() - 1;
            case "tent":
                need(a >= 0 && a <= 9, NO_ARGUMENT);
                refuseIf(world.tents.size() == 5, 1, 5);
                world.tents.add(new int[] {a, 0});
                return world.tents.size() - 1;
            case "heater":
                refuseIf(world.heaters.size() == 4, 1, 4);
                world.heaters.add(new int[] {20, -1});
                return world.heaters.size() - 1;
            case "out": case "back": case "tear": case "mend":
                return changeOfTub(call, a, b);
            case "heat": case "cold": case "gas":
                return changeOfHeater(call, a, b);
            case "join":
                need(in(a, world.tents), NO_INDEX);
                refuseIf(world.queue(a).size() == 6, 1, 6);
                refuseIf(world.tubIn(a) < 0, 6, a);
                refuseIf(world.clean() == 0, 10, world.used);
                world.guests.add(new int[] {a, 0});
                return world.guests.size() - 1;
            default:
                return changeOfMany(call, a);
        }
    }

    private int changeOfTub(String call, int a, int b) {
        need(in(a, world.tubs), NO_INDEX);
        int[] tub = world.tubs.get(a);
        switch (call) {
            case "out":
                need(in(b, world.tents), NO_INDEX);
                refuseIf(tub[1] >= 0, 2, tub[1]);
                refuseIf(tub[2] != 0, 3, Integer.numberOfTrailingZeros(tub[2]));
                refuseIf(world.tubIn(b) >= 0, 4, world.tubIn(b));
                tub[1] = b;
                tub[3] = 0;
                world.coins += 2 * tub[0];
                return world.coins;
            case "back":
                refuseIf(tub[1] < 0, 5, a);
                int litres = tub[3];
                tub[1] = -1;
                tub[3] = 0;
                tub[5] = 0;
                return litres;
            case "tear":
                need(b >= 0 && b <= 7, NO_INDEX);
                tub[2] |= 1 << b;
                return Integer.bitCount(tub[2]);
            default:
                need(b >= 0 && b <= 7, NO_INDEX);
                refuseIf((tub[2] >> b & 1) == 0, 11, b);
                refuseIf(tub[3] > 0, 14, tub[3]);
                refuseIf(world.coins < 2, 12, 2 - world.coins);
                world.coins -= 2;
                tub[2] ^= 1 << b;
                return Integer.bitCount(tub[2]);
        }
    }

    private int changeOfHeater(String call, int a, int b) {
        need(in(a, world.heaters), NO_INDEX);
        int[] heater = world.heaters.get(a);
        switch (call) {
            case "heat":
                need(in(b, world.tents), NO_INDEX);
                refuseIf(heater[1] >= 0, 7, heater[1]);
                refuseIf(world.heaterIn(b) >= 0, 8, world.heaterIn(b));
                heater[1] = b;
                return heater[0];
            case "cold":
                refuseIf(heater[1] < 0, 9, a);
                int tent = heater[1];
                heater[1] = -1;
                return tent;
            default:
                need(b >= 1 && b <= 12, NO_ARGUMENT);
                refuseIf(b > world.coins, 12, b - world.coins);
                world.coins -= b;
                heater[0] = Math.min(60, heater[0] + 5 * b);
                return heater[0];
        }
    }

    private int changeOfMany(String call, int a) {
        need(a >= 1 && a <= (call.equals("pass") ? 48 : 20), NO_ARGUMENT);
        switch (call) {
            case "wash":
                refuseIf(world.used == 0, 13, 0);
                int washed = Math.min(a, world.used);
                refuseIf(washed > world.coins, 12, washed - world.coins);
                world.coins -= washed;
                world.used -= washed;
                return washed;
            case "soap":
                int bought = Math.min(a, 99 - world.soap);
                refuseIf(bought > world.coins, 12, bought - world.coins);
                world.coins -= bought;
                world.soap += bought;
                return world.soap;
            default:
                int waited = world.waiting();
                for (int i = 0; i < a; i++) {
                    world.hour();
                }
                return waited - world.waiting();
        }
    }

    private int read() {
        String text = input;
        input = "";
        Matcher whole = TEXT.matcher(text);
        if (!whole.matches()) {
            fault = text.length();
            for (int length = text.length(); length > 0; length--) {
                Matcher part = TEXT.matcher(text.substring(0, length));
                if (!part.matches() && !part.hitEnd()) {
                    fault = length - 1;
                }
            }
            throw new Stop(NO_ARGUMENT);
        }
        String[] commands = text.split(";");
        return changed(() -> {
            for (int i = 0; i < commands.length; i++) {
                String[] words = commands[i].split(" ");
                String call = words[0].equals("hours") ? "pass" : words[0];
                try {
                    change(call, Integer.parseInt(words[1]), words.length > 2 ? Integer.parseInt(words[2]) : 0);
                } catch (Stop stop) {
                    refuseIf(!stop.name.equals(REFUSED), 20, i);
                    throw stop;
                }
            }
            return commands.length;
        });
    }

    private int asked(String call, int a, int b) {
        switch (call) {
            case "tubOf":
                need(in(a, world.tubs), NO_INDEX);
                need(b >= 0 && b <= 6, NO_ARGUMENT);
                return b == 4 && world.tubs.get(a)[3] == 0 ? 0 : world.tubs.get(a)[b];
            case "torn":
                need(in(a, world.tubs) && b >= 0 && b <= 7, NO_INDEX);
                int torn = world.tubs.get(a)[2] >> b << b;
                need(torn != 0, NO_ELEMENT);
                return Integer.numberOfTrailingZeros(torn);
            case "bestTub":
                return bestTub();
            case "tentOf":
                need(in(a, world.tents), NO_INDEX);
                need(b >= 0 && b <= 4, NO_ARGUMENT);
                int[] told = {world.tents.get(a)[0], world.tubIn(a), world.heaterIn(a), world.queue(a).size(),
                    world.tents.get(a)[1]};
                return told[b];
            case "waiting":
                need(in(a, world.tents), NO_INDEX);
                need(in(b, world.queue(a)), NO_ELEMENT);
                return world.queue(a).get(b);
            case "heaterOf":
                need(in(a, world.heaters), NO_INDEX);
                return world.heaters.get(a)[b == 1 ? 0 : 1];
            case "heatsIn": case "heatsAgain":
                need(a >= 1 && a <= 3 && b >= 10 && b <= 60, NO_ARGUMENT);
                return b >= 38 ? 0 : 1 + (37 - b) / (12 / a);
            case "bathesIn":
                return bathesIn(a);
            default:
                return askedOfTexts(call, a, b);
        }
    }

    private int askedOfTexts(String call, int a, int b) {
        switch (call) {
            case "line":
                need(in(a, world.tents), NO_INDEX);
                line = lineOf(a);
                return line.length();
            case "character":
                need(a >= 0 && a < line.length(), NO_INDEX);
                return line.charAt(a);
            case "number":
                need(a >= 0 && a <= 16, NO_ARGUMENT);
                return told()[a];
            case "towels":
                return 12;
            case "faultPosition":
                need(fault >= 0, NO_ELEMENT);
                return fault;
            case "refusal":
                need(reason > 0, NO_ELEMENT);
                return b == 1 ? reason : detail;
            default:
                throw new IllegalStateException("no such call: " + call);
        }
    }

    private int bestTub() {
        int best = -1;
        int most = -1;
        for (int i = 0; i < world.tubs.size(); i++) {
            int[] tub = world.tubs.get(i);
            int worth = 100000 * tub[0] - tub[6];
            if (tub[1] < 0 && tub[2] == 0 && worth > most) {
                most = worth;
                best = i;
            }
        }
        need(best >= 0, NO_ELEMENT);
        return best;
    }

    private int bathesIn(int guest) {
        need(in(guest, world.guests) && world.guests.get(guest)[1] == 0, NO_ELEMENT);
        World ahead = world.copy();
        int hours = 0;
        while (ahead.guests.get(guest)[1] == 0) {
            need(hours < 60, NO_ELEMENT);
            ahead.hour();
            hours++;
        }
        return hours;
    }

    private String lineOf(int tent) {
        String told = tent + ":";
        int number = world.tubIn(tent);
        if (number < 0) {
            told += " no tub";
        } else {
            int[] tub = world.tubs.get(number);
            told += " " + number + " " + tub[3] + "l";
            told += tub[3] == 0 ? "" : " " + tub[4] + "c";
            told += tub[5] == 0 ? "" : " dirty";
        }
        int heater = world.heaterIn(tent);
        told += heater < 0 ? "" : " h" + world.heaters.get(heater)[0];
        int waiting = world.queue(tent).size();
        return waiting == 0 ? told : told + " +" + waiting;
    }

    private int[] told() {
        int out = 0;
        int torn = 0;
        int litres = 0;
        for (int[] tub : world.tubs) {
            out += tub[1] >= 0 ? 1 : 0;
            torn += Integer.bitCount(tub[2]);
            litres += tub[3];
        }
        int gas = 0;
        for (int[] heater : world.heaters) {
            gas += heater[0];
        }
        int came = world.guests.size();
        return new int[] {world.hour, world.tubs.size(), out, torn, world.tents.size(), world.heaters.size(), gas,
            world.clean(), world.used, world.waiting(), came, came - world.waiting(), world.soap, world.coins, litres,
            past.size(), input.length()};
    }

    private String meanWarmth() {
        double sum = 0;
        int warm = 0;
        for (int[] tub : world.tubs) {
            if (tub[3] > 0) {
                sum += tub[4];
                warm++;
            }
        }
        return warm == 0 ? "ArithmeticException" : "" + sum / warm;
    }
}
