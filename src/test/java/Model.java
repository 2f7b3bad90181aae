import java.util.ArrayList;
import java.util.List;

/** The document once more, written apart from the program: lists, and an answer or a refusal as text. */
final class Model {
    static final String NO_SUCH = "IndexOutOfBoundsException";
    static final String BAD_ARGUMENT = "IllegalArgumentException";
    static final String BAD_STATE = "IllegalStateException";

    private static final double[] NEW_CAPACITY = {12.0, 16.0, 20.0};

    private static final class Lamp {
        int number;
        int kind;
        int place = LampRoom.RACK;
        int turns;
        boolean leaks;
        double charge;
        double capacity;

        boolean isWeak() {
            return capacity < 0.75 * NEW_CAPACITY[kind];
        }
    }

    private static final class Miner {
        int number;
        int kind;
        int below;
        Lamp lamp;
    }

    private final List<Lamp> lamps = new ArrayList<>();
    private final List<Miner> miners = new ArrayList<>();
    private final List<Miner> board = new ArrayList<>();
    private final List<Integer> alarms = new ArrayList<>();

    /** The answer of the call that bears this number (as the promises do), or the exception's name. */
    String answer(int promise, int argument) {
        switch (promise) {
            case 2: return addLamp(argument);
            case 3: return addMiner(argument);
            case 8: return hours(argument);
            case 9: return "" + board.size();
            case 10: return inList(board, argument) ? "" + board.get(argument).number : "-1";
            case 17: return isKind(argument) ? "" + issuable(argument).size() : BAD_ARGUMENT;
            case 18: return "" + board.stream().filter(m -> m.lamp.kind > m.kind).count();
            case 19: return inList(alarms, argument) ? "" + alarms.get(argument) : "-1";
            case 21: return rackCharge();
            case 4: case 5: case 11: case 12: case 20:
                return inList(miners, argument) ? ofMiner(promise, miners.get(argument)) : NO_SUCH;
            default:
                return inList(lamps, argument) ? ofLamp(promise, lamps.get(argument)) : NO_SUCH;
        }
    }

    private String ofMiner(int promise, Miner miner) {
        boolean above = miner.lamp == null;
        switch (promise) {
            case 4: return above ? issue(miner) : BAD_STATE;
            case 5: return above ? BAD_STATE : back(miner);
            case 11: return above ? "-1" : "" + miner.lamp.number;
            case 12: return above ? "-1" : "" + miner.below;
            default: return above ? "-1" : "" + (int) miner.lamp.charge;
        }
    }

    private String ofLamp(int promise, Lamp lamp) {
        switch (promise) {
            case 6: return lamp.place == LampRoom.RACK ? test(lamp) : BAD_STATE;
            case 7: return lamp.place == LampRoom.ASIDE ? mend(lamp) : BAD_STATE;
            case 13: return "" + lamp.place;
            case 14: return "" + lamp.charge;
            case 15: return "" + lamp.capacity;
            default: return "" + lamp.turns;
        }
    }

    private static boolean inList(List<?> list, int index) {
        return index >= 0 && index < list.size();
    }

    private static boolean isKind(int kind) {
        return kind >= 0 && kind <= 2;
    }

    private String addLamp(int kind) {
        if (!isKind(kind)) {
            return BAD_ARGUMENT;
        }
        if (lamps.size() == 40) {
            return BAD_STATE;
        }
        Lamp lamp = new Lamp();
        lamp.number = lamps.size();
        lamp.kind = kind;
        lamp.capacity = NEW_CAPACITY[kind];
        lamp.charge = lamp.capacity;
        lamps.add(lamp);
        return "" + lamp.number;
    }

    private String addMiner(int kind) {
        if (!isKind(kind)) {
            return BAD_ARGUMENT;
        }
        if (miners.size() == 30) {
            return BAD_STATE;
        }
        Miner miner = new Miner();
        miner.number = miners.size();
        miner.kind = kind;
        miners.add(miner);
        return "" + miner.number;
    }

    private List<Lamp> issuable(int kind) {
        List<Lamp> found = new ArrayList<>();
        for (Lamp lamp : lamps) {
            if (lamp.kind == kind && lamp.place == LampRoom.RACK && lamp.charge >= 9.0) {
                found.add(lamp);
            }
        }
        return found;
    }

    private String issue(Miner miner) {
        for (int kind = miner.kind; kind <= 2; kind++) {
            List<Lamp> found = issuable(kind);
            if (!found.isEmpty()) {
                found.sort((a, b) -> a.charge != b.charge ? Double.compare(b.charge, a.charge) : a.number - b.number);
                miner.lamp = found.get(0);
                miner.lamp.place = LampRoom.OUT;
                miner.below = 0;
                board.add(miner);
                return "" + miner.lamp.number;
            }
        }
        return BAD_STATE;
    }

    private String back(Miner miner) {
        Lamp lamp = miner.lamp;
        lamp.place = LampRoom.RACK;
        lamp.turns++;
        lamp.leaks = lamp.leaks || lamp.turns % 7 == 0;
        lamp.capacity *= 0.97;
        lamp.charge = Math.min(lamp.charge, lamp.capacity);
        miner.lamp = null;
        board.remove(miner);
        alarms.removeIf(alarm -> alarm / 2 == miner.number);
        return "" + miner.below;
    }

    private String test(Lamp lamp) {
        if (!lamp.leaks && !lamp.isWeak()) {
            return "" + LampRoom.SOUND;
        }
        lamp.place = LampRoom.ASIDE;
        return "" + (lamp.leaks ? LampRoom.LEAKING : LampRoom.WEAK);
    }

    private String mend(Lamp lamp) {
        lamp.leaks = false;
        lamp.place = lamp.isWeak() ? LampRoom.SCRAPPED : LampRoom.RACK;
        return "" + !lamp.isWeak();
    }

    private String hours(int hours) {
        if (hours < 1 || hours > 100) {
            return BAD_ARGUMENT;
        }
        int begun = 0;
        for (int i = 0; i < hours; i++) {
            begun += hour();
        }
        return "" + begun;
    }

    private int hour() {
        int gaining = 0;
        for (Lamp lamp : lamps) {
            if (lamp.place == LampRoom.OUT) {
                lamp.charge -= Math.min(lamp.charge, lamp.leaks ? 1.5 : 1.0);
            } else if (lamp.place == LampRoom.RACK && lamp.charge != lamp.capacity && gaining < 5) {
                gaining++;
                lamp.charge = Math.min(lamp.charge + 2.5, lamp.capacity);
            }
        }
        int before = alarms.size();
        for (Miner miner : miners) {
            if (miner.lamp != null) {
                miner.below++;
                addAlarm(miner.below > 9, 2 * miner.number + LampRoom.LATE);
                addAlarm(miner.lamp.charge == 0.0, 2 * miner.number + LampRoom.DARK);
            }
        }
        return alarms.size() - before;
    }

    private void addAlarm(boolean holds, int alarm) {
        if (holds && !alarms.contains(alarm)) {
            alarms.add(alarm);
        }
    }

    private String rackCharge() {
        double charge = 0.0;
        double capacity = 0.0;
        for (Lamp lamp : lamps) {
            if (lamp.place == LampRoom.RACK) {
                charge += lamp.charge;
                capacity += lamp.capacity;
            }
        }
        return capacity == 0.0 ? "0" : "" + (int) (charge / capacity * 100.0);
    }
}
