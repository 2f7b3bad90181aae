import java.util.function.Consumer;
import java.util.function.Supplier;

/** Behind each refused call every answer is as it was before it, and so are the answers to later calls. */
public final class RefusalsTest {
    private static final Class<?> ARGUMENT = IllegalArgumentException.class;
    private static final Class<?> STATE = IllegalStateException.class;
    private static final Class<?> INDEX = IndexOutOfBoundsException.class;

    private final Checks checks = new Checks();
    private Supplier<LampRoom> made;
    private int lamps;
    private int miners;

    public static void main(String[] args) {
        new RefusalsTest().run();
    }

    private void run() {
        checks.sentence("in an empty room", this::inEmptyRoom);
        checks.sentence("with no lamp ready", this::withNoLampReady);
        checks.sentence("with lamps ready", this::withLampsReady);
        checks.sentence("in a full room", this::inFullRoom);
        checks.sentence("a call that only reads", this::readingChangesNothing);
        checks.finish();
    }

    private void room(Supplier<LampRoom> make, int lampCount, int minerCount) {
        made = make;
        lamps = lampCount;
        miners = minerCount;
    }

    // The room beside it has seen no refused call; one object alone could not be read twice in its 512 calls.
    private void refused(String name, Class<?> due, Consumer<LampRoom> call) {
        LampRoom read = made.get();
        checks.refused(name, due, () -> call.accept(read));
        checks.same("readings behind " + name,
                Answers.readings(read, lamps, miners), Answers.readings(made.get(), lamps, miners));
        LampRoom played = made.get();
        checks.refused(name, due, () -> call.accept(played));
        checks.same("later calls behind " + name,
                Answers.playOn(played, lamps, miners), Answers.playOn(made.get(), lamps, miners));
    }

    private void wrongNumbers() {
        for (int kind : new int[] {-1, 3}) {
            refused("addLamp(" + kind + ")", ARGUMENT, room -> room.addLamp(kind));
            refused("addMiner(" + kind + ")", ARGUMENT, room -> room.addMiner(kind));
            refused("ready(" + kind + ")", ARGUMENT, room -> room.ready(kind));
        }
        for (int hours : new int[] {-1, 0, 101}) {
            refused("hours(" + hours + ")", ARGUMENT, room -> room.hours(hours));
        }
        for (int miner : new int[] {-1, miners}) {
            refused("issue(" + miner + ")", INDEX, room -> room.issue(miner));
            refused("back(" + miner + ")", INDEX, room -> room.back(miner));
            refused("lampOf(" + miner + ")", INDEX, room -> room.lampOf(miner));
            refused("hoursBelow(" + miner + ")", INDEX, room -> room.hoursBelow(miner));
            refused("lightLeft(" + miner + ")", INDEX, room -> room.lightLeft(miner));
        }
        for (int lamp : new int[] {-1, lamps}) {
            refused("test(" + lamp + ")", INDEX, room -> room.test(lamp));
            refused("mend(" + lamp + ")", INDEX, room -> room.mend(lamp));
            refused("placeOf(" + lamp + ")", INDEX, room -> room.placeOf(lamp));
            refused("chargeOf(" + lamp + ")", INDEX, room -> room.chargeOf(lamp));
            refused("capacityOf(" + lamp + ")", INDEX, room -> room.capacityOf(lamp));
            refused("turnsOf(" + lamp + ")", INDEX, room -> room.turnsOf(lamp));
        }
    }

    private void inEmptyRoom() {
        room(LampRoom::new, 0, 0);
        wrongNumbers();
    }

    /**
     * Lamps: 0 scrapped, 1 aside, 2 and 3 out and empty, 4 on the rack with 5.0, 5 out as a spare;
     * 3, 4 and 5 leak, which nobody has seen.
     * Miners: 0 and 1 below, late and in the dark, 2 above, 3 below, 4 above.
     */
    private static LampRoom busy() {
        LampRoom room = Rooms.with(Rooms.kinds(2), 2, 0, 0, 0, 1);
        Rooms.turns(room, 0, 10);
        Rooms.testAndMend(room, 0);
        room.addLamp(2);
        Rooms.turns(room, 0, 7);
        room.test(1);
        for (int kind : new int[] {2, 0, 0, 1}) {
            room.addLamp(kind);
        }
        Rooms.turns(room, 1, 14);
        Rooms.turns(room, 4, 7);
        Rooms.issueAll(room, 1, 0, 2);
        room.hours(20);
        room.back(2);
        room.hours(1);
        room.issue(3);
        room.hours(1);
        return room;
    }

    private static LampRoom busyAndReady() {
        LampRoom room = busy();
        room.addLamp(0);
        room.addLamp(2);
        return room;
    }

    private void busyCalls() {
        wrongNumbers();
        refused("issue with the tally on the board", STATE, room -> room.issue(0));
        refused("issue to a miner with a spare", STATE, room -> room.issue(3));
        refused("back with the tally not on the board", STATE, room -> room.back(2));
        refused("back of a miner who never was below", STATE, room -> room.back(4));
        refused("test of a scrapped lamp", STATE, room -> room.test(0));
        refused("test of a lamp aside", STATE, room -> room.test(1));
        refused("test of a lamp that is out", STATE, room -> room.test(2));
        refused("test of a leaking lamp that is out", STATE, room -> room.test(5));
        refused("mend of a scrapped lamp", STATE, room -> room.mend(0));
        refused("mend of a lamp that is out", STATE, room -> room.mend(2));
        refused("mend of a leaking lamp that is out", STATE, room -> room.mend(5));
        refused("mend of a leaking lamp on the rack", STATE, room -> room.mend(4));
    }

    private void withNoLampReady() {
        room(RefusalsTest::busy, 6, 5);
        LampRoom room = busy();
        checks.same("board", Answers.board(room), "1 0 3");
        checks.same("alarms", Answers.alarms(room), "3 0 2 1");
        checks.same("chargeOf the low lamp", room.chargeOf(4), 5.0);
        checks.same("lampOf miner 3", room.lampOf(3), 5);
        for (int lamp = 3; lamp < 6; lamp++) {
            checks.same("lamp " + lamp + " has gone through 7 turns or 8", room.turnsOf(lamp) / 7, 1);
        }
        busyCalls();
        refused("issue with a low lamp alone", STATE, busy -> busy.issue(2));
        refused("issue without a lamp", STATE, busy -> busy.issue(4));
    }

    private void withLampsReady() {
        room(RefusalsTest::busyAndReady, 8, 5);
        busyCalls();
    }

    private static LampRoom fullAndBusy() {
        LampRoom room = Rooms.full();
        Rooms.issueAll(room, 29, 3, 14);
        room.hours(11);
        room.back(3);
        room.hours(1);
        return room;
    }

    private void inFullRoom() {
        room(RefusalsTest::fullAndBusy, 40, 30);
        wrongNumbers();
        for (int kind = 0; kind < 3; kind++) {
            int lampOrMiner = kind;
            refused("the 41st lamp", STATE, room -> room.addLamp(lampOrMiner));
            refused("the 31st miner", STATE, room -> room.addMiner(lampOrMiner));
        }
        refused("issue with the tally on the board", STATE, room -> room.issue(29));
        refused("back with the tally not on the board", STATE, room -> room.back(3));
        refused("test of a lamp that is out", STATE, room -> room.test(0));
        refused("mend of a lamp on the rack", STATE, room -> room.mend(39));
    }

    private void readingChangesNothing() {
        LampRoom room = busyAndReady();
        String before = Answers.readings(room, 8, 5);
        checks.same("readings, read again", Answers.readings(room, 8, 5), before);
        checks.same("later calls behind readings", Answers.playOn(room, 8, 5), Answers.playOn(busyAndReady(), 8, 5));
    }
}
