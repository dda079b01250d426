import java.util.NoSuchElementException;

/** Hires folding bath tubs out to tents. The promises that it keeps stand in the project's document. */
public final class TubHire {
    private static final int FORECAST_HOURS = 60;

    private final Store store = new Store();
    // Stores that are made once and used again, so that no call makes one of its own.
    private final Store ahead = new Store();
    private final Store saved = new Store();
    private final Past past = new Past();
    private final Text text = new Text();
    private final StringBuilder written = new StringBuilder();
    private boolean isSaved = false;
    private int keptFault = -1;

    public TubHire() {
    }

    // ---- tubs

    public int tub(int size) throws IllegalArgumentException, UnsupportedOperationException {
        past.note(store);
        return settled(store.addTub(size));
    }

    public int tubOf(int tub, int what) throws IndexOutOfBoundsException, IllegalArgumentException {
        Tub told = store.tubAt(tub);
        if (told == null) {
            throw new IndexOutOfBoundsException("no such tub");
        }
        if (what < 0 || what > 6) {
            throw new IllegalArgumentException("a tub has no such number");
        }
        return told.told(what);
    }

    public int torn(int tub, int seam) throws IndexOutOfBoundsException, NoSuchElementException {
        Tub told = store.tubAt(tub);
        if (told == null || !Tub.hasSeam(seam)) {
            throw new IndexOutOfBoundsException("no such tub or seam");
        }
        int found = told.tornFrom(seam);
        if (found < 0) {
            throw new NoSuchElementException("no torn seam from there on");
        }
        return found;
    }

    public int tear(int tub, int seam) throws IndexOutOfBoundsException {
        past.note(store);
        return settled(store.tearSeam(tub, seam));
    }

    public int mend(int tub, int seam) throws IndexOutOfBoundsException, UnsupportedOperationException {
        past.note(store);
        return settled(store.mendSeam(tub, seam));
    }

    public int bestTub() throws NoSuchElementException {
        int best = store.bestStored();
        if (best < 0) {
            throw new NoSuchElementException("no tub in the store holds its water");
        }
        return best;
    }

    public int out(int tub, int tent) throws IndexOutOfBoundsException, UnsupportedOperationException {
        past.note(store);
        return settled(store.goOut(tub, tent));
    }

    public int back(int tub) throws IndexOutOfBoundsException, UnsupportedOperationException {
        past.note(store);
        return settled(store.bringBack(tub));
    }

    // ---- tents and heaters

    public int tent(int slope) throws IllegalArgumentException, UnsupportedOperationException {
        past.note(store);
        return settled(store.addTent(slope));
    }

    public int tentOf(int tent, int what) throws IndexOutOfBoundsException, IllegalArgumentException {
        Tent told = store.tentAt(tent);
        if (told == null) {
            throw new IndexOutOfBoundsException("no such tent");
        }
        if (what < 0 || what > 4) {
            throw new IllegalArgumentException("a tent has no such number");
        }
        return told.told(what);
    }

    public int waiting(int tent, int place) throws IndexOutOfBoundsException, NoSuchElementException {
        Tent told = store.tentAt(tent);
        if (told == null) {
            throw new IndexOutOfBoundsException("no such tent");
        }
        int guest = told.guestAt(place);
        if (guest < 0) {
            throw new NoSuchElementException("nobody waits at this place");
        }
        return guest;
    }

    public int join(int tent) throws IndexOutOfBoundsException, UnsupportedOperationException {
        past.note(store);
        return settled(store.addGuest(tent));
    }

    public int heater() throws UnsupportedOperationException {
        past.note(store);
        return settled(store.addHeater());
    }

    public int heaterOf(int heater, boolean isGas) throws IndexOutOfBoundsException {
        Heater told = store.heaterAt(heater);
        if (told == null) {
            throw new IndexOutOfBoundsException("no such heater");
        }
        return isGas ? told.gas : told.tent;
    }

    public int heat(int heater, int tent) throws IndexOutOfBoundsException, UnsupportedOperationException {
        past.note(store);
        return settled(store.putHeater(heater, tent));
    }

    public int cold(int heater) throws IndexOutOfBoundsException, UnsupportedOperationException {
        past.note(store);
        return settled(store.takeHeater(heater));
    }

    public int gas(int heater, int coins)
            throws IndexOutOfBoundsException, IllegalArgumentException, UnsupportedOperationException {
        past.note(store);
        return settled(store.buyGas(heater, coins));
    }

    // ---- towels, soap, hours

    public int wash(int many) throws IllegalArgumentException, UnsupportedOperationException {
        past.note(store);
        return settled(store.washTowels(many));
    }

    public int soap(int many) throws IllegalArgumentException, UnsupportedOperationException {
        past.note(store);
        return settled(store.buySoap(many));
    }

    public int pass(int hours) throws IllegalArgumentException {
        past.note(store);
        return settled(store.letHoursGo(hours));
    }

    public int heatsIn(int size, int warmth) throws IllegalArgumentException {
        requireWater(size, warmth);
        int reached = warmth;
        int hours = 0;
        while (reached < Tub.BATH_WARMTH && hours < FORECAST_HOURS) {
            reached = Tub.heated(size, reached);
            hours++;
        }
        return hours;
    }

    public int heatsAgain(int size, int warmth) throws IllegalArgumentException {
        requireWater(size, warmth);
        int missing = Tub.BATH_WARMTH - warmth;
        int step = Tub.degreesAnHour(size);
        return missing <= 0 || step <= 0 ? 0 : (missing + step - 1) / step;
    }

    public int bathesIn(int guest) throws NoSuchElementException {
        int hours = store.awaits(guest) ? hoursUntilBath(guest) : -1;
        if (hours < 0) {
            throw new NoSuchElementException("no such guest bathes soon");
        }
        return hours;
    }

    // ---- lines, accounts

    public int line(int tent) throws IndexOutOfBoundsException {
        Tent told = store.tentAt(tent);
        if (told == null) {
            throw new IndexOutOfBoundsException("no such tent");
        }
        written.setLength(0);
        written.append(tent).append(':');
        appendTub(told.tub);
        Heater heater = store.heaterAt(told.heater);
        if (heater != null) {
            written.append(" h").append(heater.gas);
        }
        if (told.waiting > 0) {
            written.append(" +").append(told.waiting);
        }
        return written.length();
    }

    public char character(int i) throws IndexOutOfBoundsException {
        if (i < 0 || i >= written.length()) {
            throw new IndexOutOfBoundsException("no such character");
        }
        return written.charAt(i);
    }

    public int number(int what) throws IllegalArgumentException {
        if (what < 0 || what > 16) {
            throw new IllegalArgumentException("no such number");
        }
        if (what == 15) {
            return past.count;
        }
        return what == 16 ? text.length : store.told(what);
    }

    public int towels() {
        return store.clean + store.used + (store.came - store.bathed);
    }

    public double meanWarmth() throws ArithmeticException {
        int warm = 0;
        int sum = 0;
        for (int i = 0; i < store.tubCount; i++) {
            Tub tub = store.tubAt(i);
            if (tub != null && tub.litres > 0) {
                warm++;
                sum += tub.warmth;
            }
        }
        if (warm == 0) {
            throw new ArithmeticException("no tub has water");
        }
        return (double) sum / (double) warm;
    }

    public float bathedShare() throws ArithmeticException {
        if (store.came == 0) {
            throw new ArithmeticException("nobody came");
        }
        return (float) store.bathed / (float) store.came;
    }

    // ---- texts

    public int feed(char character) throws IllegalStateException {
        if (!text.takes(character)) {
            throw new IllegalStateException("the input is full");
        }
        return text.length;
    }

    public int read() throws IllegalArgumentException, UnsupportedOperationException {
        int fault = text.firstFault();
        if (fault >= 0) {
            keptFault = fault;
            text.length = 0;
            throw new IllegalArgumentException("the input is no text");
        }
        past.note(store);
        int commands = carriedOut();
        text.length = 0;
        if (commands < 0) {
            past.giveNoted(store);
            throw new UnsupportedOperationException("a command is refused");
        }
        past.keep();
        return commands;
    }

    public int faultPosition() throws NoSuchElementException {
        if (keptFault < 0) {
            throw new NoSuchElementException("no fault position was kept");
        }
        return keptFault;
    }

    public int refusal(boolean isReason) throws NoSuchElementException {
        if (store.refusal.reason == 0) {
            throw new NoSuchElementException("nothing was refused");
        }
        return isReason ? store.refusal.reason : store.refusal.detail;
    }

    // ---- undo, snapshots

    public int undo() throws IllegalStateException {
        if (past.count == 0) {
            throw new IllegalStateException("nothing can be undone");
        }
        past.giveLatest(store);
        return past.count;
    }

    public int saveSnapshot() {
        saved.copyFrom(store);
        isSaved = true;
        return store.tubCount;
    }

    public int restoreSnapshot() throws IllegalStateException {
        if (!isSaved) {
            throw new IllegalStateException("there is no snapshot");
        }
        store.copyFrom(saved);
        past.count = 0;
        return store.tubCount;
    }

    /** Answers for a change: one that succeeded can be undone, and one that failed has left the store as it was. */
    private int settled(int outcome) {
        if (outcome == Store.MISSING) {
            throw new IndexOutOfBoundsException("no such number");
        }
        if (outcome == Store.OUT_OF_RANGE) {
            throw new IllegalArgumentException("out of range");
        }
        if (outcome == Store.REFUSED) {
            throw new UnsupportedOperationException("refused");
        }
        past.keep();
        return outcome;
    }

    private static void requireWater(int size, int warmth) {
        if (!Tub.hasSize(size) || warmth < Tub.COLDEST || warmth > Tub.WARMEST) {
            throw new IllegalArgumentException("no such size or warmth");
        }
    }

    /** A guest leaves a queue only to bathe, so the hour in which the guest is gone is that of the bath. */
    private int hoursUntilBath(int guest) {
        ahead.copyFrom(store);
        for (int hours = 1; hours <= FORECAST_HOURS; hours++) {
            ahead.letHoursGo(1);
            if (!ahead.awaits(guest)) {
                return hours;
            }
        }
        return -1;
    }

    private void appendTub(int number) {
        Tub tub = store.tubAt(number);
        if (tub == null) {
            written.append(" no tub");
            return;
        }
        written.append(' ').append(number).append(' ').append(tub.litres).append('l');
        if (tub.litres > 0) {
            written.append(' ').append(tub.warmth).append('c');
            if (tub.isDirty) {
                written.append(" dirty");
            }
        }
    }

    /** Carries out a text without fault; returns the number of its commands, or -1 if one is refused. */
    private int carriedOut() {
        text.at = 0;
        int commands = 0;
        while (commands < Text.MOST_SIGNS && text.readsCommand()) {
            int outcome = outcomeOf(text.command, text.first, text.second);
            if (outcome < 0) {
                if (outcome != Store.REFUSED) {
                    store.refusal.keep(Refusal.OTHER_FAILURE, commands);
                }
                return -1;
            }
            commands++;
            text.accepts(';');
        }
        return commands;
    }

    private int outcomeOf(Command command, int first, int second) {
        switch (command) {
            case OUT:
                return store.goOut(first, second);
            case BACK:
                return store.bringBack(first);
            case HEAT:
                return store.putHeater(first, second);
            case COLD:
                return store.takeHeater(first);
            case JOIN:
                return store.addGuest(first);
            case MEND:
                return store.mendSeam(first, second);
            case WASH:
                return store.washTowels(first);
            case SOAP:
                return store.buySoap(first);
            default:
                return store.letHoursGo(first);
        }
    }

    /** The latest refusal; the reason is 0 as long as there was none. */
    private static final class Refusal {
        static final int NO_ROOM = 1;
        static final int TUB_IS_AWAY = 2;
        static final int TUB_LEAKS = 3;
        static final int TENT_HAS_TUB = 4;
        static final int TUB_IS_STORED = 5;
        static final int TENT_HAS_NO_TUB = 6;
        static final int HEATER_IS_AWAY = 7;
        static final int TENT_HAS_HEATER = 8;
        static final int HEATER_IS_STORED = 9;
        static final int NO_CLEAN_TOWEL = 10;
        static final int SEAM_IS_WHOLE = 11;
        static final int TOO_FEW_COINS = 12;
        static final int NO_USED_TOWEL = 13;
        static final int TUB_HAS_WATER = 14;
        static final int OTHER_FAILURE = 20;

        int reason = 0;
        int detail = 0;

        int keep(int newReason, int newDetail) {
            reason = newReason;
            detail = newDetail;
            return Store.REFUSED;
        }
    }

    /** A tub with its water. */
    private static final class Tub {
        static final int SEAMS = 8;
        static final int COLDEST = 10;
        static final int WARMEST = 60;
        static final int BATH_WARMTH = 38;
        static final int DEAR_WARMTH = 45;

        int size = 0;
        int tent = -1;
        int torn = 0;
        int litres = 0;
        int warmth = COLDEST;
        boolean isDirty = false;
        int baths = 0;

        static boolean hasSize(int size) {
            return size >= 1 && size <= 3;
        }

        static boolean hasSeam(int seam) {
            return seam >= 0 && seam < SEAMS;
        }

        static int degreesAnHour(int size) {
            return size > 0 ? 12 / size : 0;
        }

        static int heated(int size, int warmth) {
            return Math.min(WARMEST, warmth + degreesAnHour(size));
        }

        void copyFrom(Tub other) {
            size = other.size;
            tent = other.tent;
            torn = other.torn;
            litres = other.litres;
            warmth = other.warmth;
            isDirty = other.isDirty;
            baths = other.baths;
        }

        int told(int what) {
            switch (what) {
                case 0:
                    return size;
                case 1:
                    return tent;
                case 2:
                    return torn;
                case 3:
                    return litres;
                case 4:
                    return litres > 0 ? warmth : 0;
                case 5:
                    return isDirty ? 1 : 0;
                default:
                    return baths;
            }
        }

        boolean isTorn(int seam) {
            return (torn >> seam & 1) != 0;
        }

        /** Returns the first torn seam from one on, or -1 if there is none. */
        int tornFrom(int seam) {
            for (int s = seam; s < SEAMS; s++) {
                if (isTorn(s)) {
                    return s;
                }
            }
            return -1;
        }

        int tornSeams() {
            return Integer.bitCount(torn);
        }

        int fullLitres() {
            return 100 * size;
        }

        void lose(int lost) {
            litres = Math.max(0, litres - lost);
        }

        /** A tub that its torn seams have emptied ends up here too, and so is clean without being filled yet. */
        void drain(int lost) {
            lose(lost);
            if (litres == 0) {
                isDirty = false;
            }
        }

        void fill() {
            warmth = litres == 0 ? COLDEST : Math.max(COLDEST, warmth - 5);
            litres = fullLitres();
        }

        void empty() {
            litres = 0;
            isDirty = false;
        }
    }

    /** A tent with the queue of its guests. */
    private static final class Tent {
        static final int MOST_WAITING = 6;

        int slope = 0;
        int tub = -1;
        int heater = -1;
        int waiting = 0;
        int bathed = 0;
        final int[] guests = new int[MOST_WAITING];

        void copyFrom(Tent other) {
            slope = other.slope;
            tub = other.tub;
            heater = other.heater;
            waiting = other.waiting;
            bathed = other.bathed;
            for (int i = 0; i < MOST_WAITING; i++) {
                guests[i] = other.guests[i];
            }
        }

        int told(int what) {
            switch (what) {
                case 0:
                    return slope;
                case 1:
                    return tub;
                case 2:
                    return heater;
                case 3:
                    return waiting;
                default:
                    return bathed;
            }
        }

        /** Returns the guest at a place, or -1 if there is no such place. */
        int guestAt(int place) {
            return place >= 0 && place < waiting && place < MOST_WAITING ? guests[place] : -1;
        }

        boolean awaits(int guest) {
            for (int place = 0; place < waiting; place++) {
                if (guestAt(place) == guest) {
                    return true;
                }
            }
            return false;
        }

        void append(int guest) {
            if (waiting >= 0 && waiting < MOST_WAITING) {
                guests[waiting] = guest;
                waiting++;
            }
        }

        void removeFirst() {
            for (int place = 1; place < MOST_WAITING; place++) {
                guests[place - 1] = guests[place];
            }
            waiting--;
        }
    }

    /** A heater. */
    private static final class Heater {
        static final int MOST_GAS = 60;

        int gas = 20;
        int tent = -1;

        void copyFrom(Heater other) {
            gas = other.gas;
            tent = other.tent;
        }
    }

    /**
     * All that changes can change. A method that tries a change answers what its caller is due, or, below 0, how it
     * failed; then nothing is changed.
     */
    private static final class Store {
        static final int REFUSED = -1;
        static final int MISSING = -2;
        static final int OUT_OF_RANGE = -3;
        static final int MOST_TUBS = 8;
        static final int MOST_TENTS = 5;
        static final int MOST_HEATERS = 4;
        static final int MOST_SOAP = 99;
        static final int LONGEST_PASS = 48;

        // Stays with its store: a copy of another store does not bring the other's refusal.
        final Refusal refusal = new Refusal();
        final Tub[] tubs = new Tub[MOST_TUBS];
        final Tent[] tents = new Tent[MOST_TENTS];
        final Heater[] heaters = new Heater[MOST_HEATERS];
        int tubCount = 0;
        int tentCount = 0;
        int heaterCount = 0;
        int hour = 0;
        int clean = 12;
        int used = 0;
        int came = 0;
        int bathed = 0;
        int soapSlices = 10;
        int coins = 10;

        Store() {
            for (int i = 0; i < MOST_TUBS; i++) {
                tubs[i] = new Tub();
            }
            for (int i = 0; i < MOST_TENTS; i++) {
                tents[i] = new Tent();
            }
            for (int i = 0; i < MOST_HEATERS; i++) {
                heaters[i] = new Heater();
            }
        }

        void copyFrom(Store other) {
            for (int i = 0; i < MOST_TUBS; i++) {
                tubs[i].copyFrom(other.tubs[i]);
            }
            for (int i = 0; i < MOST_TENTS; i++) {
                tents[i].copyFrom(other.tents[i]);
            }
            for (int i = 0; i < MOST_HEATERS; i++) {
                heaters[i].copyFrom(other.heaters[i]);
            }
            tubCount = other.tubCount;
            tentCount = other.tentCount;
            heaterCount = other.heaterCount;
            hour = other.hour;
            clean = other.clean;
            used = other.used;
            came = other.came;
            bathed = other.bathed;
            soapSlices = other.soapSlices;
            coins = other.coins;
        }

        /** Returns a tub, or null if there is no such one, as for the -1 of a tent without a tub. */
        Tub tubAt(int tub) {
            return tub >= 0 && tub < tubCount && tub < MOST_TUBS ? tubs[tub] : null;
        }

        Tent tentAt(int tent) {
            return tent >= 0 && tent < tentCount && tent < MOST_TENTS ? tents[tent] : null;
        }

        Heater heaterAt(int heater) {
            return heater >= 0 && heater < heaterCount && heater < MOST_HEATERS ? heaters[heater] : null;
        }

        int addTub(int size) {
            if (!Tub.hasSize(size)) {
                return OUT_OF_RANGE;
            }
            if (tubCount < 0 || tubCount >= MOST_TUBS) {
                return refusal.keep(Refusal.NO_ROOM, MOST_TUBS);
            }
            tubs[tubCount].size = size;
            return tubCount++;
        }

        int addTent(int slope) {
            if (slope < 0 || slope > 9) {
                return OUT_OF_RANGE;
            }
            if (tentCount < 0 || tentCount >= MOST_TENTS) {
                return refusal.keep(Refusal.NO_ROOM, MOST_TENTS);
            }
            tents[tentCount].slope = slope;
            return tentCount++;
        }

        int addHeater() {
            if (heaterCount >= MOST_HEATERS) {
                return refusal.keep(Refusal.NO_ROOM, MOST_HEATERS);
            }
            return heaterCount++;
        }

        int tearSeam(int number, int seam) {
            Tub tub = tubAt(number);
            if (tub == null || !Tub.hasSeam(seam)) {
                return MISSING;
            }
            tub.torn |= 1 << seam;
            return tub.tornSeams();
        }

        int mendSeam(int number, int seam) {
            Tub tub = tubAt(number);
            if (tub == null || !Tub.hasSeam(seam)) {
                return MISSING;
            }
            if (!tub.isTorn(seam)) {
                return refusal.keep(Refusal.SEAM_IS_WHOLE, seam);
            }
            if (tub.litres > 0) {
                return refusal.keep(Refusal.TUB_HAS_WATER, tub.litres);
            }
            if (isTooDear(2)) {
                return REFUSED;
            }
            coins -= 2;
            tub.torn &= ~(1 << seam);
            return tub.tornSeams();
        }

        /** Keeps a refusal if there are fewer coins than something costs. */
        boolean isTooDear(int cost) {
            if (cost > coins) {
                refusal.keep(Refusal.TOO_FEW_COINS, cost - coins);
                return true;
            }
            return false;
        }

        /** Returns the best tub in the store that holds its water, or -1 if there is none. */
        int bestStored() {
            int best = -1;
            Tub bestTub = null;
            for (int i = 0; i < tubCount; i++) {
                Tub tub = tubAt(i);
                if (tub != null && tub.tent < 0 && tub.torn == 0 && isBetter(tub, bestTub)) {
                    best = i;
                    bestTub = tub;
                }
            }
            return best;
        }

        static boolean isBetter(Tub tub, Tub other) {
            return other == null || tub.size > other.size || tub.size == other.size && tub.baths < other.baths;
        }

        int goOut(int tubNumber, int tentNumber) {
            Tub tub = tubAt(tubNumber);
            Tent tent = tentAt(tentNumber);
            if (tub == null || tent == null) {
                return MISSING;
            }
            if (tub.tent >= 0) {
                return refusal.keep(Refusal.TUB_IS_AWAY, tub.tent);
            }
            if (tub.torn != 0) {
                return refusal.keep(Refusal.TUB_LEAKS, tub.tornFrom(0));
            }
            if (tent.tub >= 0) {
                return refusal.keep(Refusal.TENT_HAS_TUB, tent.tub);
            }
            tub.tent = tentNumber;
            tent.tub = tubNumber;
            coins += 2 * tub.size;
            return coins;
        }

        int bringBack(int number) {
            Tub tub = tubAt(number);
            if (tub == null) {
                return MISSING;
            }
            Tent tent = tentAt(tub.tent);
            if (tent == null) {
                return refusal.keep(Refusal.TUB_IS_STORED, number);
            }
            int litres = tub.litres;
            tub.empty();
            tub.tent = -1;
            tent.tub = -1;
            return litres;
        }

        int addGuest(int number) {
            Tent tent = tentAt(number);
            if (tent == null) {
                return MISSING;
            }
            if (tent.waiting >= Tent.MOST_WAITING) {
                return refusal.keep(Refusal.NO_ROOM, Tent.MOST_WAITING);
            }
            if (tent.tub < 0) {
                return refusal.keep(Refusal.TENT_HAS_NO_TUB, number);
            }
            if (clean == 0) {
                return refusal.keep(Refusal.NO_CLEAN_TOWEL, used);
            }
            clean--;
            tent.append(came);
            return came++;
        }

        boolean awaits(int guest) {
            for (int i = 0; i < tentCount; i++) {
                Tent tent = tentAt(i);
                if (tent != null && tent.awaits(guest)) {
                    return true;
                }
            }
            return false;
        }

        int putHeater(int heaterNumber, int tentNumber) {
            Heater heater = heaterAt(heaterNumber);
            Tent tent = tentAt(tentNumber);
            if (heater == null || tent == null) {
                return MISSING;
            }
            if (heater.tent >= 0) {
                return refusal.keep(Refusal.HEATER_IS_AWAY, heater.tent);
            }
            if (tent.heater >= 0) {
                return refusal.keep(Refusal.TENT_HAS_HEATER, tent.heater);
            }
            heater.tent = tentNumber;
            tent.heater = heaterNumber;
            return heater.gas;
        }

        int takeHeater(int number) {
            Heater heater = heaterAt(number);
            if (heater == null) {
                return MISSING;
            }
            int place = heater.tent;
            Tent tent = tentAt(place);
            if (tent == null) {
                return refusal.keep(Refusal.HEATER_IS_STORED, number);
            }
            heater.tent = -1;
            tent.heater = -1;
            return place;
        }

        int buyGas(int number, int paid) {
            Heater heater = heaterAt(number);
            if (heater == null) {
                return MISSING;
            }
            if (paid < 1 || paid > 12) {
                return OUT_OF_RANGE;
            }
            if (isTooDear(paid)) {
                return REFUSED;
            }
            coins -= paid;
            heater.gas = Math.min(Heater.MOST_GAS, heater.gas + 5 * paid);
            return heater.gas;
        }

        int washTowels(int many) {
            if (many < 1 || many > 20) {
                return OUT_OF_RANGE;
            }
            if (used == 0) {
                return refusal.keep(Refusal.NO_USED_TOWEL, 0);
            }
            int washed = Math.min(many, used);
            if (isTooDear(washed)) {
                return REFUSED;
            }
            coins -= washed;
            used -= washed;
            clean += washed;
            return washed;
        }

        int buySoap(int many) {
            if (many < 1 || many > 20) {
                return OUT_OF_RANGE;
            }
            int bought = Math.min(many, MOST_SOAP - soapSlices);
            if (isTooDear(bought)) {
                return REFUSED;
            }
            coins -= bought;
            soapSlices += bought;
            return soapSlices;
        }

        /** Returns how many guests bathe in the hours. */
        int letHoursGo(int hours) {
            if (hours < 1 || hours > LONGEST_PASS) {
                return OUT_OF_RANGE;
            }
            int bathedBefore = bathed;
            for (int h = 0; h < hours; h++) {
                hour++;
                for (int i = 0; i < tentCount; i++) {
                    letHourGoIn(tentAt(i));
                }
            }
            return bathed - bathedBefore;
        }

        void letHourGoIn(Tent tent) {
            Tub tub = tent == null ? null : tubAt(tent.tub);
            if (tub == null) {
                return;
            }
            tub.lose(5 * tub.tornSeams());
            if (tub.isDirty) {
                tub.drain(20 + 10 * tent.slope);
            } else if (tub.litres < tub.fullLitres()) {
                tub.fill();
            } else if (tub.warmth >= Tub.BATH_WARMTH && tent.waiting > 0 && soapSlices > 0) {
                bathe(tent, tub);
            } else if (tub.warmth < Tub.WARMEST && burnsGas(tent.heater)) {
                tub.warmth = Tub.heated(tub.size, tub.warmth);
            } else {
                tub.warmth = Math.max(Tub.COLDEST, tub.warmth - 1);
            }
        }

        void bathe(Tent tent, Tub tub) {
            soapSlices--;
            coins += tub.warmth >= Tub.DEAR_WARMTH ? 4 : 3;
            used++;
            bathed++;
            tent.removeFirst();
            tent.bathed++;
            tub.isDirty = true;
            tub.baths++;
            if (tub.baths % 4 == 0) {
                tub.torn |= 1 << (tent.tub + tub.baths) % Tub.SEAMS;
            }
        }

        /** Takes 1 of gas, if there is a heater of this number that has some. */
        boolean burnsGas(int number) {
            Heater heater = heaterAt(number);
            if (heater == null || heater.gas <= 0) {
                return false;
            }
            heater.gas--;
            return true;
        }

        int told(int what) {
            switch (what) {
                case 0:
                    return hour;
                case 1:
                    return tubCount;
                case 4:
                    return tentCount;
                case 5:
                    return heaterCount;
                case 6:
                    return gasInAll();
                case 7:
                    return clean;
                case 8:
                    return used;
                case 9:
                    return waitingInAll();
                case 10:
                    return came;
                case 11:
                    return bathed;
                case 12:
                    return soapSlices;
                case 13:
                    return coins;
                default:
                    return toldOfTubs(what);
            }
        }

        int gasInAll() {
            int sum = 0;
            for (int i = 0; i < heaterCount; i++) {
                Heater heater = heaterAt(i);
                sum += heater == null ? 0 : heater.gas;
            }
            return sum;
        }

        int waitingInAll() {
            int sum = 0;
            for (int i = 0; i < tentCount; i++) {
                Tent tent = tentAt(i);
                sum += tent == null ? 0 : tent.waiting;
            }
            return sum;
        }

        /** Sums up, over all tubs, those in tents for 2, the torn seams for 3, and the litres otherwise. */
        int toldOfTubs(int what) {
            int sum = 0;
            for (int i = 0; i < tubCount; i++) {
                Tub tub = tubAt(i);
                if (tub == null) {
                    continue;
                }
                if (what == 2) {
                    sum += tub.tent >= 0 ? 1 : 0;
                } else {
                    sum += what == 3 ? tub.tornSeams() : tub.litres;
                }
            }
            return sum;
        }
    }

    /** What can be undone: the stores before the latest changes, in a ring in which the oldest is written over. */
    private static final class Past {
        static final int MOST = 8;
        // One more than can be undone: what is noted before a change that then fails must not cost the oldest one.
        static final int ROOM = MOST + 1;

        final Store[] ring = new Store[ROOM];
        int next = 0;
        int count = 0;

        Past() {
            for (int i = 0; i < ROOM; i++) {
                ring[i] = new Store();
            }
        }

        /** Notes what is there before a change, until the next note or until it is kept. */
        void note(Store store) {
            ring[Math.floorMod(next, ROOM)].copyFrom(store);
        }

        void giveNoted(Store store) {
            store.copyFrom(ring[Math.floorMod(next, ROOM)]);
        }

        /** Keeps what was noted last, as something that can be undone. */
        void keep() {
            next = Math.floorMod(next + 1, ROOM);
            count = Math.min(MOST, count + 1);
        }

        void giveLatest(Store store) {
            next = Math.floorMod(next - 1, ROOM);
            count--;
            giveNoted(store);
        }
    }

    /** The commands of a text, with the word each begins with, and how many single digits follow it, 0 for a number. */
    private enum Command {
        OUT("out ", 2), BACK("back ", 1), HEAT("heat ", 2), COLD("cold ", 1), JOIN("join ", 1), MEND("mend ", 2),
        WASH("wash ", 0), SOAP("soap ", 0), HOURS("hours ", 0);

        private static final Command[] ALL = values();

        final String word;
        final int digits;

        Command(String word, int digits) {
            this.word = word;
            this.digits = digits;
        }
    }

    /** The input, and what of it is read as a text. */
    private static final class Text {
        static final int MOST_SIGNS = 60;

        final char[] signs = new char[MOST_SIGNS];
        int length = 0;
        int at = 0;
        Command command = Command.OUT;
        int first = 0;
        int second = 0;

        boolean takes(char sign) {
            if (length < 0 || length >= MOST_SIGNS) {
                return false;
            }
            signs[length] = sign;
            length++;
            return true;
        }

        /** Returns the fault position, or -1 if the input is a text. */
        int firstFault() {
            at = 0;
            for (int commands = 0; commands < MOST_SIGNS; commands++) {
                if (!readsCommand()) {
                    return at;
                }
                if (at >= length) {
                    return -1;
                }
                if (!accepts(';')) {
                    return at;
                }
            }
            return at;
        }

        /** Reads a command; where it fails, it stops at the fault position. */
        boolean readsCommand() {
            if (!readsWord()) {
                return false;
            }
            first = readDigit();
            if (first < 0) {
                return false;
            }
            if (command.digits == 1) {
                return true;
            }
            if (command.digits == 2) {
                second = accepts(' ') ? readDigit() : -1;
                return second >= 0;
            }
            int unit = readDigit();
            first = unit < 0 ? first : 10 * first + unit;
            return true;
        }

        /** No word begins another, so the one that fits longest tells the command, or else where the fault is. */
        boolean readsWord() {
            int longest = 0;
            boolean isWhole = false;
            for (int i = 0; i < Command.ALL.length; i++) {
                String word = Command.ALL[i].word;
                int fitting = fittingSigns(word);
                longest = Math.max(longest, fitting);
                if (fitting == word.length()) {
                    command = Command.ALL[i];
                    isWhole = true;
                }
            }
            at += longest;
            return isWhole;
        }

        int fittingSigns(String word) {
            int fitting = 0;
            while (fitting < word.length() && signAt(at + fitting) == word.charAt(fitting)) {
                fitting++;
            }
            return fitting;
        }

        /** Reads a digit, or answers -1 if there is none. */
        int readDigit() {
            int sign = signAt(at);
            if (sign < '0' || sign > '9') {
                return -1;
            }
            at++;
            return sign - '0';
        }

        boolean accepts(char sign) {
            if (signAt(at) != sign) {
                return false;
            }
            at++;
            return true;
        }

        /** Returns a sign of the input, or -1 where there is none. */
        int signAt(int place) {
            return place >= 0 && place < length && place < MOST_SIGNS ? signs[place] : -1;
        }
    }
}
