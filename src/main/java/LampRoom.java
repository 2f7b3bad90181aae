/** The lamp room of a mine: its lamps, the board with the tallies, and the alarms. */
public final class LampRoom {
    public static final int SOUND = 0, LEAKING = 1, WEAK = 2;
    public static final int RACK = 0, OUT = 1, ASIDE = 2, SCRAPPED = 3;
    public static final int LATE = 0, DARK = 1;

    private static final int KINDS = 3;
    private static final int MOST_LAMPS = 40;
    private static final int MOST_MINERS = 30;
    private static final int MOST_HOURS = 100;
    private static final int LONGEST_BELOW = 9;
    private static final int NONE = -1;

    private final Lamps lamps;
    private final Tallies tallies;
    private final Alarms alarms;
    private int clock;

    public LampRoom() {
        lamps = new Lamps();
        tallies = new Tallies();
        alarms = new Alarms();
        clock = 0;
    }

    public int addLamp(int kind) throws IllegalArgumentException, IllegalStateException {
        checkKind(kind);
        if (lamps.size() >= MOST_LAMPS) {
            throw new IllegalStateException("there are 40 lamps");
        }
        return lamps.hangNew(kind);
    }

    public int addMiner(int kind) throws IllegalArgumentException, IllegalStateException {
        checkKind(kind);
        if (tallies.size() >= MOST_MINERS) {
            throw new IllegalStateException("there are 30 miners");
        }
        return tallies.enter(kind);
    }

    public int issue(int miner) throws IndexOutOfBoundsException, IllegalStateException {
        checkMiner(miner);
        if (tallies.lampHeld(miner) != NONE) {
            throw new IllegalStateException("the tally is on the board");
        }
        int lamp = lamps.bestFor(tallies.kindAt(miner));
        if (lamp == NONE) {
            throw new IllegalStateException("there is no lamp");
        }
        lamps.moveTo(lamp, OUT);
        tallies.hangUp(miner, lamp, clock);
        return lamp;
    }

    public int back(int miner) throws IndexOutOfBoundsException, IllegalStateException {
        checkMiner(miner);
        int lamp = tallies.lampHeld(miner);
        if (lamp == NONE) {
            throw new IllegalStateException("the tally is not on the board");
        }
        int time = clock - tallies.hungAt(miner);
        lamps.takeBack(lamp);
        tallies.takeDown(miner);
        alarms.end(miner);
        return time;
    }

    public int test(int lamp) throws IndexOutOfBoundsException, IllegalStateException {
        checkLamp(lamp);
        if (lamps.placeAt(lamp) != RACK) {
            throw new IllegalStateException("the lamp is not on the rack");
        }
        int fault = lamps.faultAt(lamp);
        if (fault != SOUND) {
            lamps.moveTo(lamp, ASIDE);
        }
        return fault;
    }

    public boolean mend(int lamp) throws IndexOutOfBoundsException, IllegalStateException {
        checkLamp(lamp);
        if (lamps.placeAt(lamp) != ASIDE) {
            throw new IllegalStateException("the lamp is not set aside");
        }
        lamps.endLeak(lamp);
        boolean good = lamps.faultAt(lamp) == SOUND;
        lamps.moveTo(lamp, good ? RACK : SCRAPPED);
        return good;
    }

    public int hours(int hours) throws IllegalArgumentException {
        if (hours < 1 || hours > MOST_HOURS) {
            throw new IllegalArgumentException("hours must be 1 to 100");
        }
        int begun = 0;
        for (int i = 0; i < hours; i++) {
            begun += passHour();
        }
        return begun;
    }

    public int below() {
        return tallies.onBoard();
    }

    public int board(int place) {
        return tallies.onBoardAt(place);
    }

    public int lampOf(int miner) throws IndexOutOfBoundsException {
        checkMiner(miner);
        return tallies.lampHeld(miner);
    }

    public int hoursBelow(int miner) throws IndexOutOfBoundsException {
        checkMiner(miner);
        return tallies.lampHeld(miner) == NONE ? -1 : clock - tallies.hungAt(miner);
    }

    public int placeOf(int lamp) throws IndexOutOfBoundsException {
        checkLamp(lamp);
        return lamps.placeAt(lamp);
    }

    public double chargeOf(int lamp) throws IndexOutOfBoundsException {
        checkLamp(lamp);
        return lamps.chargeAt(lamp);
    }

    public double capacityOf(int lamp) throws IndexOutOfBoundsException {
        checkLamp(lamp);
        return lamps.capacityAt(lamp);
    }

    public int turnsOf(int lamp) throws IndexOutOfBoundsException {
        checkLamp(lamp);
        return lamps.turnsAt(lamp);
    }

    public int ready(int kind) throws IllegalArgumentException {
        checkKind(kind);
        return lamps.countIssuable(kind);
    }

    public int spares() {
        int spares = 0;
        for (int miner = 0; miner < tallies.size(); miner++) {
            int lamp = tallies.lampHeld(miner);
            if (lamp != NONE && lamps.kindAt(lamp) > tallies.kindAt(miner)) {
                spares++;
            }
        }
        return spares;
    }

    public int alarm(int place) {
        return alarms.lastingAt(place);
    }

    public int lightLeft(int miner) throws IndexOutOfBoundsException {
        checkMiner(miner);
        int lamp = tallies.lampHeld(miner);
        return lamp == NONE ? -1 : (int) lamps.chargeAt(lamp);
    }

    public int rackCharge() {
        return lamps.hundredthsOnRack();
    }

    private static void checkKind(int kind) {
        if (kind < 0 || kind >= KINDS) {
            throw new IllegalArgumentException("there is no such class");
        }
    }

    private void checkMiner(int miner) {
        if (miner < 0 || miner >= tallies.size()) {
            throw new IndexOutOfBoundsException("there is no such miner");
        }
    }

    private void checkLamp(int lamp) {
        if (lamp < 0 || lamp >= lamps.size()) {
            throw new IndexOutOfBoundsException("there is no such lamp");
        }
    }

    /** Returns how many alarms begin in the hour. */
    private int passHour() {
        clock++;
        lamps.burn();
        lamps.load();
        int begun = 0;
        for (int miner = 0; miner < tallies.size(); miner++) {
            int lamp = tallies.lampHeld(miner);
            if (lamp != NONE) {
                begun += beginAlarms(miner, lamp);
            }
        }
        return begun;
    }

    private int beginAlarms(int miner, int lamp) {
        int begun = 0;
        if (clock - tallies.hungAt(miner) > LONGEST_BELOW && alarms.begin(miner, LATE, clock)) {
            begun++;
        }
        if (lamps.chargeAt(lamp) <= 0.0 && alarms.begin(miner, DARK, clock)) {
            begun++;
        }
        return begun;
    }

    /** The lamps by their numbers; whoever names one here has looked at the number before. */
    private static final class Lamps {
        private static final int LEAK_TURNS = 7;
        private static final int LOADING_PLACES = 5;

        private final int[] kinds = new int[MOST_LAMPS];
        private final int[] places = new int[MOST_LAMPS];
        private final int[] turns = new int[MOST_LAMPS];
        private final boolean[] leaks = new boolean[MOST_LAMPS];
        private final double[] charges = new double[MOST_LAMPS];
        private final double[] capacities = new double[MOST_LAMPS];
        private int count = 0;

        int size() {
            return count;
        }

        int kindAt(int lamp) {
            return kinds[lamp];
        }

        int placeAt(int lamp) {
            return places[lamp];
        }

        int turnsAt(int lamp) {
            return turns[lamp];
        }

        double chargeAt(int lamp) {
            return charges[lamp];
        }

        double capacityAt(int lamp) {
            return capacities[lamp];
        }

        int hangNew(int kind) {
            int lamp = count;
            kinds[lamp] = kind;
            places[lamp] = RACK;
            capacities[lamp] = newCapacity(kind);
            charges[lamp] = capacities[lamp];
            count++;
            return lamp;
        }

        void moveTo(int lamp, int place) {
            places[lamp] = place;
        }

        void endLeak(int lamp) {
            leaks[lamp] = false;
        }

        void takeBack(int lamp) {
            places[lamp] = RACK;
            turns[lamp]++;
            if (turns[lamp] % LEAK_TURNS == 0) {
                leaks[lamp] = true;
            }
            capacities[lamp] = capacities[lamp] * 0.97;
            if (charges[lamp] > capacities[lamp]) {
                charges[lamp] = capacities[lamp];
            }
        }

        int faultAt(int lamp) {
            if (leaks[lamp]) {
                return LEAKING;
            }
            return capacities[lamp] < 0.75 * newCapacity(kinds[lamp]) ? WEAK : SOUND;
        }

        /** The lamp to issue to a miner of the class, a spare if need be, or NONE. */
        int bestFor(int minerKind) {
            for (int kind = minerKind; kind < KINDS; kind++) {
                int best = fullestOf(kind);
                if (best != NONE) {
                    return best;
                }
            }
            return NONE;
        }

        private int fullestOf(int kind) {
            int best = NONE;
            for (int lamp = 0; lamp < count; lamp++) {
                if (isIssuable(lamp, kind) && (best == NONE || charges[lamp] > charges[best])) {
                    best = lamp;
                }
            }
            return best;
        }

        int countIssuable(int kind) {
            int issuable = 0;
            for (int lamp = 0; lamp < count; lamp++) {
                if (isIssuable(lamp, kind)) {
                    issuable++;
                }
            }
            return issuable;
        }

        private boolean isIssuable(int lamp, int kind) {
            return kinds[lamp] == kind && places[lamp] == RACK && charges[lamp] >= 9.0;
        }

        /** An hour's loss of the lamps that are out. */
        void burn() {
            for (int lamp = 0; lamp < count; lamp++) {
                if (places[lamp] == OUT) {
                    double loss = leaks[lamp] ? 1.5 : 1.0;
                    charges[lamp] = charges[lamp] > loss ? charges[lamp] - loss : 0.0;
                }
            }
        }

        /** An hour's gain of the lamps on the rack. */
        void load() {
            int free = LOADING_PLACES;
            for (int lamp = 0; lamp < count && free > 0; lamp++) {
                if (places[lamp] == RACK && charges[lamp] < capacities[lamp]) {
                    double more = charges[lamp] + 2.5;
                    charges[lamp] = more < capacities[lamp] ? more : capacities[lamp];
                    free--;
                }
            }
        }

        int hundredthsOnRack() {
            double charge = 0.0;
            double capacity = 0.0;
            for (int lamp = 0; lamp < count; lamp++) {
                if (places[lamp] == RACK) {
                    charge += charges[lamp];
                    capacity += capacities[lamp];
                }
            }
            return capacity > 0.0 ? (int) (charge / capacity * 100.0) : 0;
        }

        private static double newCapacity(int kind) {
            return kind == 0 ? 12.0 : kind == 1 ? 16.0 : 20.0;
        }
    }

    /** The miners by their numbers, and the board; a tally is on it while its miner holds a lamp. */
    private static final class Tallies {
        private final int[] kinds = new int[MOST_MINERS];
        private final int[] held = new int[MOST_MINERS];
        private final int[] hours = new int[MOST_MINERS];
        private final int[] orders = new int[MOST_MINERS];
        private int count = 0;
        private int issued = 0;

        int size() {
            return count;
        }

        int kindAt(int miner) {
            return kinds[miner];
        }

        int lampHeld(int miner) {
            return held[miner];
        }

        int hungAt(int miner) {
            return hours[miner];
        }

        int enter(int kind) {
            int miner = count;
            kinds[miner] = kind;
            held[miner] = NONE;
            count++;
            return miner;
        }

        void hangUp(int miner, int lamp, int hour) {
            held[miner] = lamp;
            hours[miner] = hour;
            orders[miner] = issued;
            issued++;
        }

        void takeDown(int miner) {
            held[miner] = NONE;
        }

        int onBoard() {
            int hanging = 0;
            for (int miner = 0; miner < count; miner++) {
                if (held[miner] != NONE) {
                    hanging++;
                }
            }
            return hanging;
        }

        int onBoardAt(int place) {
            for (int miner = 0; miner < count; miner++) {
                if (held[miner] != NONE && countAhead(miner) == place) {
                    return miner;
                }
            }
            return NONE;
        }

        // The hours never fall from one issue to the next, so the order of issuing tells both.
        private int countAhead(int miner) {
            int ahead = 0;
            for (int other = 0; other < count; other++) {
                if (held[other] != NONE && orders[other] < orders[miner]) {
                    ahead++;
                }
            }
            return ahead;
        }
    }

    /** The hour at which each alarm that lasts began, by twice the miner's number and the kind. */
    private static final class Alarms {
        // No alarm begins before an hour has gone by, so 0 is free to say that none lasts.
        private static final int NEVER = 0;

        private final int[] began = new int[2 * MOST_MINERS];

        /** Returns whether it begins now, and has not lasted already. */
        boolean begin(int miner, int kind, int hour) {
            int alarm = 2 * miner + kind;
            if (began[alarm] != NEVER) {
                return false;
            }
            began[alarm] = hour;
            return true;
        }

        void end(int miner) {
            began[2 * miner + LATE] = NEVER;
            began[2 * miner + DARK] = NEVER;
        }

        int lastingAt(int place) {
            for (int alarm = 0; alarm < began.length; alarm++) {
                if (began[alarm] != NEVER && countAhead(alarm) == place) {
                    return alarm;
                }
            }
            return NONE;
        }

        private int countAhead(int alarm) {
            int ahead = 0;
            for (int other = 0; other < began.length; other++) {
                if (began[other] != NEVER && isAhead(other, alarm)) {
                    ahead++;
                }
            }
            return ahead;
        }

        // The number of an alarm itself orders those of one hour: by miners, LATE first.
        private boolean isAhead(int other, int alarm) {
            return began[other] < began[alarm] || began[other] == began[alarm] && other < alarm;
        }
    }
}
