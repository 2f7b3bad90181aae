import java.util.Arrays;

/** Lamp rooms that the tests begin with, and runs of calls that bring them farther. */
final class Rooms {
    static final int MOST_LAMPS = 40;
    static final int MOST_MINERS = 30;

    private Rooms() {
    }

    /** A room with lamps of these classes and miners of those. */
    static LampRoom with(int[] lampKinds, int... minerKinds) {
        LampRoom room = new LampRoom();
        for (int kind : lampKinds) {
            room.addLamp(kind);
        }
        for (int kind : minerKinds) {
            room.addMiner(kind);
        }
        return room;
    }

    /** A room with one lamp and one miner, both of the class. */
    static LampRoom pair(int kind) {
        return with(kinds(kind), kind);
    }

    /** A room with so many lamps and as many miners, all of class 2. */
    static LampRoom pairs(int count) {
        int[] kinds = new int[count];
        Arrays.fill(kinds, 2);
        return with(kinds, kinds);
    }

    /** 40 lamps and 30 miners, all of class 0. */
    static LampRoom full() {
        return with(new int[MOST_LAMPS], new int[MOST_MINERS]);
    }

    static int[] kinds(int... kinds) {
        return kinds;
    }

    static void issueAll(LampRoom room, int... miners) {
        for (int miner : miners) {
            room.issue(miner);
        }
    }

    /** Takes the miner below and up again, so many times, without an hour between. */
    static void turns(LampRoom room, int miner, int times) {
        for (int i = 0; i < times; i++) {
            room.issue(miner);
            room.back(miner);
        }
    }

    /** One turn of so many hours. */
    static void turnOf(LampRoom room, int miner, int hours) {
        room.issue(miner);
        room.hours(hours);
        room.back(miner);
    }

    static void testAndMend(LampRoom room, int lamp) {
        room.test(lamp);
        room.mend(lamp);
    }

    /** A room with a pair of the class, its lamp after so many turns, with its leak mended after the 7th. */
    static LampRoom mendedAtSeven(int kind, int turns) {
        LampRoom room = pair(kind);
        turns(room, 0, 7);
        testAndMend(room, 0);
        turns(room, 0, turns - 7);
        return room;
    }

    /** A capacity after so many turns, worn turn by turn. */
    static double worn(double capacity, int turns) {
        double left = capacity;
        for (int i = 0; i < turns; i++) {
            left = left * 0.97;
        }
        return left;
    }
}
