/** Lamp rooms that the tests begin with. */
final class Rooms {
    static final int[] WRONG_KINDS = {-1, 3, Integer.MIN_VALUE, Integer.MAX_VALUE};

    private Rooms() {
    }

    /** A room with lamps of these classes and miners of those. */
    static LampRoom with(int[] lampKinds, int... minerKinds) {
        LampRoom room = new LampRoom();
        for (int kind : lampKinds) {
            room.addLamp(kind);
        }
        for (int kind : minerKinds) {
            room.addMiner(kind);
        }
        return room;
    }

    static int[] kinds(int... kinds) {
        return kinds;
    }

    /** Takes the miner below and up again, so many times, without an hour between. */
    static void turns(LampRoom room, int miner, int times) {
        for (int i = 0; i < times; i++) {
            room.issue(miner);
            room.back(miner);
        }
    }

    /** A capacity after so many turns, worn turn by turn. */
    static double worn(double capacity, int turns) {
        double left = capacity;
        for (int i = 0; i < turns; i++) {
            left = left * 0.97;
        }
        return left;
    }
}
