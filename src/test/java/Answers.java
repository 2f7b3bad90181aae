import java.util.StringJoiner;
import java.util.function.IntUnaryOperator;
import java.util.function.Supplier;

/** What a room answers, as texts that can be compared. */
final class Answers {
    private Answers() {
    }

    /** The answer of a call, or the name of the exception that it throws. */
    static String of(Supplier<Object> call) {
        try {
            return String.valueOf(call.get());
        } catch (RuntimeException e) {
            return e.getClass().getSimpleName();
        }
    }

    /** The miners on the board, in order. */
    static String board(LampRoom room) {
        return listed(Rooms.MOST_MINERS, room::board);
    }

    /** The alarms that last, in order. */
    static String alarms(LampRoom room) {
        return listed(2 * Rooms.MOST_MINERS, room::alarm);
    }

    private static String listed(int most, IntUnaryOperator read) {
        StringJoiner got = new StringJoiner(" ");
        for (int place = 0; place <= most; place++) {
            int number = read.applyAsInt(place);
            if (number == -1) {
                break;
            }
            got.add(String.valueOf(number));
        }
        return got.toString();
    }

    /** Everything that can be read; the number behind the last lamp and miner is asked for too. */
    static String readings(LampRoom room, int lamps, int miners) {
        StringBuilder got = new StringBuilder();
        got.append("below ").append(room.below()).append(", board ").append(board(room));
        got.append(", alarms ").append(alarms(room)).append(", spares ").append(room.spares());
        for (int kind = 0; kind < 3; kind++) {
            got.append(", ready ").append(room.ready(kind));
        }
        got.append(", rack ").append(room.rackCharge());
        for (int i = 0; i <= lamps; i++) {
            int lamp = i;
            got.append("; lamp ").append(of(() -> room.placeOf(lamp)));
            got.append(' ').append(of(() -> room.chargeOf(lamp)));
            got.append(' ').append(of(() -> room.capacityOf(lamp)));
            got.append(' ').append(of(() -> room.turnsOf(lamp)));
        }
        for (int i = 0; i <= miners; i++) {
            int miner = i;
            got.append("; miner ").append(of(() -> room.lampOf(miner)));
            got.append(' ').append(of(() -> room.hoursBelow(miner)));
            got.append(' ').append(of(() -> room.lightLeft(miner)));
        }
        return got.toString();
    }

    /** What the keeper is answered from here on: a run of calls that shows what no reading does. */
    static String playOn(LampRoom room, int lamps, int miners) {
        StringBuilder got = new StringBuilder();
        got.append(of(() -> room.hours(1))).append(", lamps");
        for (int i = 0; i <= lamps; i++) {
            int lamp = i;
            got.append(' ').append(of(() -> room.chargeOf(lamp)));
        }
        testAll(got, room, lamps);
        for (int i = 0; i <= lamps; i++) {
            int lamp = i;
            got.append(' ').append(of(() -> room.mend(lamp)));
        }
        got.append(", new ").append(of(() -> room.addLamp(1))).append(' ').append(of(() -> room.addMiner(1)));
        got.append(", ").append(of(() -> room.hours(3))).append(", miners");
        for (int i = 0; i <= miners; i++) {
            int miner = i;
            got.append(' ').append(of(() -> room.back(miner))).append(' ').append(of(() -> room.issue(miner)));
        }
        got.append(", ").append(of(() -> room.hours(15)));
        testAll(got, room, lamps);
        return got.append(", board ").append(board(room)).append(", alarms ").append(alarms(room)).toString();
    }

    private static void testAll(StringBuilder got, LampRoom room, int lamps) {
        got.append(", tests");
        for (int i = 0; i <= lamps; i++) {
            int lamp = i;
            got.append(' ').append(of(() -> room.test(lamp)));
        }
    }
}
