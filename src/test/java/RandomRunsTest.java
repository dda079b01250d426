import java.util.Random;
import java.util.TreeMap;

/** Runs of 512 random calls, always the same ones, each answered both by TubHire and by the model. */
public final class RandomRunsTest {
    private static final int RUNS = 3000;
    private static final int CALLS = 512;
    private static final String[] CALL_NAMES = {"tub", "tubOf", "torn", "tear", "mend", "bestTub", "out", "back", "tent",
        "tentOf", "waiting", "join", "heater", "heaterOf", "heat", "cold", "gas", "wash", "soap", "pass", "heatsIn",
        "heatsAgain", "bathesIn", "line", "character", "number", "towels", "meanWarmth", "bathedShare", "feed", "read",
        "faultPosition", "refusal", "undo", "saveSnapshot", "restoreSnapshot"};
    // How often a call comes in a run, in the order of their names.
    private static final int[] WEIGHTS = {6, 30, 10, 4, 14, 10, 20, 8, 5,
        24, 20, 30, 4, 12, 14, 3, 14, 12, 6, 40, 2,
        2, 30, 14, 14, 40, 2, 10, 6, 2, 2,
        3, 16, 10, 4, 2};
    // What lets many guests bathe, for runs in which this comes more often.
    private static final String[] BUSY_CALLS = {"join", "join", "join", "pass", "pass", "gas", "heat", "out", "wash",
        "mend", "back", "tub", "tent"};
    private static final String[][] SET_UP = {{"tub", "tent", "heater"}, {"out", "heat", "join"}};
    private static final String[] COMMANDS = {"out # #", "back #", "heat # #", "cold #", "join #", "mend # #", "wash ##",
        "wash #", "soap ##", "soap #", "hours ##", "hours #"};

    private final Random random;
    private final TubHire hire = new TubHire();
    private final Model model = new Model();
    private final TreeMap<String, Integer> met;
    private final StringBuilder told = new StringBuilder();
    private String pending = "";
    private int calls = 0;
    private boolean isBusy = false;

    private RandomRunsTest(int seed, TreeMap<String, Integer> met) {
        this.random = new Random(seed);
        this.met = met;
    }

    public static void main(String[] args) {
        TreeMap<String, Integer> met = new TreeMap<>();
        boolean isRight = true;
        for (int seed = 1; seed <= RUNS && isRight; seed++) {
            isRight = new RandomRunsTest(seed, met).isRight(seed);
        }
        Checks.due("whether all runs are right", isRight, true);
        Checks.due("whether a bath was forecast", met.getOrDefault("bathesIn", 0) > 1000, true);
        for (int reason = 1; reason <= 14; reason++) {
            Checks.due("whether reason " + reason + " was met", met.getOrDefault("reason " + reason, 0) > 10, true);
        }
        Checks.due("whether reason 20 was met", met.getOrDefault("reason 20", 0) > 10, true);
        if (args.length > 0) {
            System.out.println(met);
        }
        Checks.end();
    }

    private boolean isRight(int seed) {
        int setUp = new int[] {0, 12, 24, 24}[random.nextInt(4)];
        isBusy = random.nextBoolean();
        while (calls < CALLS) {
            boolean isSettling = calls >= 12 && calls < setUp;
            String call = calls < setUp ? SET_UP[calls < 12 ? 0 : 1][calls % 3] : nextCall();
            int a = isSettling ? calls / 3 - 4 : first(call);
            int b = isSettling ? a : second(call);
            String got = answer(call, a, b);
            String want = model.answer(call, a, b);
            calls++;
            told.append(call).append('(').append(a).append(", ").append(b).append(") ").append(got).append('\n');
            if (!got.equals(want)) {
                System.out.println("run " + seed + ":\n" + told + "due is " + want);
                return false;
            }
            if (Character.isDigit(got.charAt(0))) {
                met.merge(call, 1, Integer::sum);
            }
            if (call.equals("refusal") && b == 1) {
                met.merge("reason " + got, 1, Integer::sum);
            }
        }
        return true;
    }

    private String nextCall() {
        if (pending.equals("!")) {
            pending = "";
            return "read";
        }
        if (!pending.isEmpty()) {
            return random.nextInt(40) == 0 ? "number" : "feed";
        }
        if (random.nextInt(40) == 0) {
            pending = text();
        }
        if (isBusy && random.nextInt(3) > 0) {
            return BUSY_CALLS[random.nextInt(BUSY_CALLS.length)];
        }
        int sum = 0;
        for (int weight : WEIGHTS) {
            sum += weight;
        }
        int left = random.nextInt(sum);
        int at = 0;
        while (left >= WEIGHTS[at]) {
            left -= WEIGHTS[at];
            at++;
        }
        return CALL_NAMES[at];
    }

    /** A text of some commands, in some of which a character is wrong, missing or too much; "!" stands for read. */
    private String text() {
        StringBuilder text = new StringBuilder();
        int commands = 1 + random.nextInt(4);
        for (int i = 0; i < commands; i++) {
            text.append(i > 0 ? ";" : "").append(COMMANDS[random.nextInt(COMMANDS.length)]);
        }
        for (int i = 0; i < text.length(); i++) {
            if (text.charAt(i) == '#') {
                text.setCharAt(i, (char) ('0' + random.nextInt(random.nextInt(3) == 0 ? 10 : 4)));
            }
        }
        if (random.nextInt(3) == 0) {
            int place = random.nextInt(text.length());
            char wrong = "abcdehijklmnoprstuw0123456789 ;x".charAt(random.nextInt(32));
            switch (random.nextInt(4)) {
                case 0:
                    text.setCharAt(place, wrong);
                    break;
                case 1:
                    text.deleteCharAt(place);
                    break;
                case 2:
                    text.insert(place, wrong);
                    break;
                default:
                    text.setLength(place);
                    break;
            }
        }
        return text.append('!').toString();
    }

    private int first(String call) {
        switch (call) {
            case "tub": case "heatsIn": case "heatsAgain":
                return wild(4);
            case "tent":
                return wild(10);
            case "wash": case "soap":
                return wild(22);
            case "pass":
                return wild(random.nextInt(8) == 0 ? 50 : 6);
            case "bathesIn":
                return wild(Integer.parseInt(model.answer("number", 10, 0)) + 1);
            case "character":
                return wild(20);
            case "number":
                return wild(17);
            case "feed":
                return nextCharacter();
            default:
                return wild(random.nextInt(6) == 0 ? 8 : 4);
        }
    }

    private int second(String call) {
        switch (call) {
            case "heaterOf": case "refusal":
                return random.nextInt(2);
            case "heatsIn": case "heatsAgain":
                return wild(62);
            case "gas":
                return wild(14);
            case "tubOf": case "tear": case "torn": case "mend":
                return wild(8);
            case "waiting":
                return wild(7);
            default:
                return wild(5);
        }
    }

    /** A number below a bound, and now and then any number. */
    private int wild(int bound) {
        int kind = random.nextInt(100);
        if (kind == 0) {
            return random.nextInt();
        }
        return kind == 1 ? -1 : random.nextInt(bound);
    }

    private char nextCharacter() {
        if (pending.isEmpty()) {
            return (char) random.nextInt(65536);
        }
        char next = pending.charAt(0);
        pending = pending.substring(1);
        return next;
    }

    private String answer(String call, int a, int b) {
        try {
            switch (call) {
                case "meanWarmth":
                    return "" + hire.meanWarmth();
                case "bathedShare":
                    return "" + hire.bathedShare();
                default:
                    return "" + number(call, a, b);
            }
        } catch (RuntimeException e) {
            return e.getClass().getSimpleName();
        }
    }

    private int number(String call, int a, int b) {
        switch (call) {
            case "tub": return hire.tub(a);
            case "tubOf": return hire.tubOf(a, b);
            case "torn": return hire.torn(a, b);
            case "tear": return hire.tear(a, b);
            case "mend": return hire.mend(a, b);
            case "bestTub": return hire.bestTub();
            case "out": return hire.out(a, b);
            case "back": return hire.back(a);
            case "tent": return hire.tent(a);
            case "tentOf": return hire.tentOf(a, b);
            case "waiting": return hire.waiting(a, b);
            case "join": return hire.join(a);
            case "heater": return hire.heater();
            case "heaterOf": return hire.heaterOf(a, b == 1);
            case "heat": return hire.heat(a, b);
            case "cold": return hire.cold(a);
            case "gas": return hire.gas(a, b);
            case "wash": return hire.wash(a);
            case "soap": return hire.soap(a);
            case "pass": return hire.pass(a);
            case "heatsIn": return hire.heatsIn(a, b);
            case "heatsAgain": return hire.heatsAgain(a, b);
            case "bathesIn": return hire.bathesIn(a);
            case "line": return hire.line(a);
            case "character": return hire.character(a);
            case "number": return hire.number(a);
            case "towels": return hire.towels();
            case "feed": return hire.feed((char) a);
            case "read": return hire.read();
            case "faultPosition": return hire.faultPosition();
            case "refusal": return hire.refusal(b == 1);
            case "undo": return hire.undo();
            case "saveSnapshot": return hire.saveSnapshot();
            case "restoreSnapshot": return hire.restoreSnapshot();
            default: throw new IllegalStateException("no such call: " + call);
        }
    }
}
