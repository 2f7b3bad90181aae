import java.util.function.IntConsumer;

/** Promises 9 to 21: the board, the racks and the alarms are read. */
public final class ReadingsTest {
    private static final int[] WRONG_PLACES = {-1, Integer.MIN_VALUE, Integer.MAX_VALUE};

    private final Checks checks = new Checks();

    public static void main(String[] args) {
        ReadingsTest test = new ReadingsTest();
        test.promise9Below();
        test.promise10Board();
        test.promise10FullBoard();
        test.promise11LampOf();
        test.promise12HoursBelow();
        test.promise13PlaceOf();
        test.promise14ChargeOf();
        test.promise15CapacityOf();
        test.promise16TurnsOf();
        test.promise17Ready();
        test.promise17ChargeOfNine();
        test.promise18Spares();
        test.promise19AlarmOrder();
        test.promise19AlarmsEnd();
        test.promise19FullBoard();
        test.promise20LightLeft();
        test.promise21RackCharge();
        test.promise21OnlyTheRack();
        test.checks.finish();
    }

    private void noSuchNumber(String call, int count, IntConsumer read) {
        int[] wrong = {-1, count, count + 1, Integer.MIN_VALUE, Integer.MAX_VALUE};
        for (int number : wrong) {
            checks.noSuch(call + "(" + number + ")", () -> read.accept(number));
        }
    }

    private void promise9Below() {
        LampRoom room = Rooms.with(Rooms.kinds(0, 0, 0), 0, 0, 0);
        for (int miner = 0; miner < 3; miner++) {
            checks.same("below before an issue", room.below(), miner);
            room.issue(miner);
        }
        checks.same("below with all", room.below(), 3);
        room.back(1);
        checks.same("below after one is back", room.below(), 2);
        room.back(0);
        room.back(2);
        checks.same("below with none", room.below(), 0);
    }

    private void promise10Board() {
        LampRoom room = Rooms.with(Rooms.kinds(1, 1, 1, 1), 1, 1, 1, 1);
        room.issue(2);
        room.issue(0);
        room.hours(1);
        room.issue(3);
        room.issue(1);
        board(room, "2 0 3 1");
        room.back(0);
        board(room, "2 3 1");
        room.hours(1);
        room.issue(0);
        board(room, "2 3 1 0");
        room.back(2);
        room.issue(2);
        board(room, "3 1 0 2");
        for (int place : WRONG_PLACES) {
            checks.same("board(" + place + ")", room.board(place), -1);
        }
    }

    private void board(LampRoom room, String due) {
        StringBuilder got = new StringBuilder();
        for (int place = 0; place < room.below(); place++) {
            got.append(place == 0 ? "" : " ").append(room.board(place));
        }
        checks.same("the board", got.toString(), due);
        checks.same("behind the board", room.board(room.below()), -1);
    }

    private void promise10FullBoard() {
        LampRoom room = fullRoom();
        for (int miner = 29; miner >= 0; miner--) {
            room.issue(miner);
        }
        for (int place = 0; place < 30; place++) {
            checks.same("board of 30", room.board(place), 29 - place);
        }
        checks.same("behind a board of 30", room.board(30), -1);
    }

    /** 40 lamps and 30 miners, all of class 0. */
    private static LampRoom fullRoom() {
        return Rooms.with(new int[40], new int[30]);
    }

    private void promise11LampOf() {
        LampRoom room = Rooms.with(Rooms.kinds(0, 1), 1, 0);
        checks.same("lampOf before the issue", room.lampOf(0), -1);
        room.issue(0);
        room.issue(1);
        checks.same("lampOf miner 0", room.lampOf(0), 1);
        checks.same("lampOf miner 1", room.lampOf(1), 0);
        room.back(0);
        checks.same("lampOf after back", room.lampOf(0), -1);
        checks.same("lampOf the other", room.lampOf(1), 0);
        noSuchNumber("lampOf", 2, room::lampOf);
    }

    private void promise12HoursBelow() {
        LampRoom room = Rooms.with(Rooms.kinds(1, 1), 1, 1);
        checks.same("hoursBelow before the issue", room.hoursBelow(0), -1);
        room.hours(4);
        room.issue(0);
        checks.same("hoursBelow at the issue", room.hoursBelow(0), 0);
        room.hours(3);
        room.issue(1);
        room.hours(100);
        checks.same("hoursBelow miner 0", room.hoursBelow(0), 103);
        checks.same("hoursBelow miner 1", room.hoursBelow(1), 100);
        room.back(0);
        checks.same("hoursBelow after back", room.hoursBelow(0), -1);
        noSuchNumber("hoursBelow", 2, room::hoursBelow);
    }

    private void promise13PlaceOf() {
        LampRoom room = Rooms.with(Rooms.kinds(1, 2), 1);
        checks.same("on the rack", room.placeOf(0), LampRoom.RACK);
        room.issue(0);
        checks.same("out", room.placeOf(0), LampRoom.OUT);
        room.back(0);
        checks.same("on the rack again", room.placeOf(0), LampRoom.RACK);
        Rooms.turns(room, 0, 9);
        room.test(0);
        checks.same("aside", room.placeOf(0), LampRoom.ASIDE);
        room.mend(0);
        checks.same("scrapped", room.placeOf(0), LampRoom.SCRAPPED);
        checks.same("the other stays", room.placeOf(1), LampRoom.RACK);
        noSuchNumber("placeOf", 2, room::placeOf);
    }

    private void promise14ChargeOf() {
        LampRoom room = Rooms.with(Rooms.kinds(2, 0), 0, 2);
        room.issue(0);
        room.issue(1);
        room.hours(3);
        checks.same("chargeOf lamp 0", room.chargeOf(0), 17.0);
        checks.same("chargeOf lamp 1", room.chargeOf(1), 9.0);
        room.back(1);
        room.hours(1);
        checks.same("chargeOf lamp 0 on the rack", room.chargeOf(0), 19.4);
        checks.same("chargeOf lamp 1 still out", room.chargeOf(1), 8.0);
        noSuchNumber("chargeOf", 2, room::chargeOf);
    }

    private void promise15CapacityOf() {
        LampRoom room = Rooms.with(Rooms.kinds(0, 1, 2), 0, 1, 2);
        for (int miner = 0; miner < 3; miner++) {
            Rooms.turns(room, miner, miner + 1);
        }
        checks.same("capacityOf after 1 turn", room.capacityOf(0), Rooms.worn(12.0, 1));
        checks.same("capacityOf after 2 turns", room.capacityOf(1), Rooms.worn(16.0, 2));
        checks.same("capacityOf after 3 turns", room.capacityOf(2), Rooms.worn(20.0, 3));
        room.issue(0);
        room.hours(50);
        checks.same("capacityOf stays while out", room.capacityOf(0), Rooms.worn(12.0, 1));
        noSuchNumber("capacityOf", 3, room::capacityOf);
    }

    private void promise16TurnsOf() {
        LampRoom room = Rooms.with(Rooms.kinds(1, 1), 1);
        checks.same("turnsOf a new lamp", room.turnsOf(0), 0);
        room.issue(0);
        checks.same("turnsOf a lamp that is out", room.turnsOf(0), 0);
        room.back(0);
        checks.same("turnsOf after back", room.turnsOf(0), 1);
        Rooms.turns(room, 0, 3);
        checks.same("turns of both", room.turnsOf(0) + room.turnsOf(1), 4);
        noSuchNumber("turnsOf", 2, room::turnsOf);
    }

    private void promise17Ready() {
        LampRoom room = Rooms.with(Rooms.kinds(0, 1, 1, 2, 2, 2), 0, 1, 2);
        for (int kind = 0; kind < 3; kind++) {
            checks.same("ready(" + kind + ")", room.ready(kind), kind + 1);
        }
        room.issue(1);
        checks.same("ready(1) with one out", room.ready(1), 1);
        checks.same("ready(2) with one of 1 out", room.ready(2), 3);
        room.back(1);
        checks.same("ready(1) with one back", room.ready(1), 2);
        for (int kind : Rooms.WRONG_KINDS) {
            checks.badArgument("ready(" + kind + ")", () -> room.ready(kind));
        }
        setAside();
    }

    private void setAside() {
        LampRoom room = Rooms.with(Rooms.kinds(2, 2), 2);
        Rooms.turns(room, 0, 14);
        checks.same("ready(2) with unseen faults", room.ready(2), 2);
        room.test(0);
        checks.same("ready(2) with one aside", room.ready(2), 1);
        room.mend(0);
        checks.same("ready(2) with one mended", room.ready(2), 2);
    }

    private void promise17ChargeOfNine() {
        LampRoom room = Rooms.with(Rooms.kinds(1), 1);
        room.issue(0);
        room.hours(7);
        room.back(0);
        checks.same("a charge of 9.0", room.chargeOf(0), 9.0);
        checks.same("ready(1) at 9.0", room.ready(1), 1);
        room.issue(0);
        room.hours(1);
        room.back(0);
        checks.same("ready(1) at 8.0", room.ready(1), 0);
        room.hours(1);
        checks.same("ready(1) at 10.5", room.ready(1), 1);
    }

    private void promise18Spares() {
        LampRoom room = Rooms.with(Rooms.kinds(0, 1, 2, 2), 0, 0, 1, 2);
        checks.same("spares with none out", room.spares(), 0);
        room.issue(0);
        checks.same("an own lamp is no spare", room.spares(), 0);
        room.issue(1);
        checks.same("a lamp of class 1 for class 0", room.spares(), 1);
        room.issue(2);
        checks.same("a lamp of class 2 for class 1", room.spares(), 2);
        room.issue(3);
        checks.same("an own lamp of class 2", room.spares(), 2);
        room.back(1);
        checks.same("one spare back", room.spares(), 1);
        room.back(2);
        checks.same("all spares back", room.spares(), 0);
    }

    private void alarms(LampRoom room, String due) {
        StringBuilder got = new StringBuilder();
        for (int place = 0; place < 60 && room.alarm(place) != -1; place++) {
            got.append(place == 0 ? "" : " ").append(room.alarm(place));
        }
        checks.same("the alarms", got.toString(), due);
    }

    private void promise19AlarmOrder() {
        LampRoom room = Rooms.with(Rooms.kinds(0, 0, 2), 2, 0, 0);
        room.issue(2);
        room.hours(2);
        room.issue(0);
        room.issue(1);
        checks.same("late: 2", room.hours(8), 1);
        alarms(room, "4");
        checks.same("dark: 2, late: 0 and 1", room.hours(2), 3);
        alarms(room, "4 0 2 5");
        checks.same("dark: 1", room.hours(2), 1);
        alarms(room, "4 0 2 5 3");
        checks.same("dark: 0", room.hours(8), 1);
        alarms(room, "4 0 2 5 3 1");
        for (int place : WRONG_PLACES) {
            checks.same("alarm(" + place + ")", room.alarm(place), -1);
        }
        lateFirstForOneMiner();
    }

    private void lateFirstForOneMiner() {
        LampRoom room = Rooms.with(Rooms.kinds(0, 0), 0, 0);
        Rooms.turns(room, 0, 2);
        room.issue(1);
        room.issue(0);
        checks.same("late and dark for two", room.hours(20), 4);
        LampRoom sameHour = sameHourRoom();
        checks.same("late and dark in one hour", sameHour.hours(1), 2);
        alarms(sameHour, "0 1");
    }

    /** A room whose miner 0 gets both alarms with the next hour: 9 hours below, less than 1.0 left. */
    private static LampRoom sameHourRoom() {
        LampRoom room = Rooms.with(Rooms.kinds(0), 0);
        Rooms.turns(room, 0, 8);
        room.test(0);
        room.mend(0);
        room.issue(0);
        room.hours(9);
        return room;
    }

    private void promise19AlarmsEnd() {
        LampRoom room = Rooms.with(Rooms.kinds(0, 0), 0, 0);
        room.issue(1);
        room.issue(0);
        room.hours(12);
        alarms(room, "0 2 1 3");
        room.back(0);
        alarms(room, "2 3");
        room.hours(4);
        room.issue(0);
        alarms(room, "2 3");
        room.hours(10);
        alarms(room, "2 3 0 1");
        room.back(1);
        alarms(room, "0 1");
        room.back(0);
        alarms(room, "");
    }

    private void promise19FullBoard() {
        LampRoom room = fullRoom();
        for (int miner = 29; miner >= 0; miner--) {
            room.issue(miner);
        }
        checks.same("60 alarms begin", room.hours(100), 60);
        for (int place = 0; place < 60; place++) {
            int due = place < 30 ? 2 * place : 2 * (place - 30) + 1;
            checks.same("alarm of 60", room.alarm(place), due);
        }
        checks.same("behind 60 alarms", room.alarm(60), -1);
    }

    private void promise20LightLeft() {
        LampRoom room = Rooms.with(Rooms.kinds(0), 0, 0);
        checks.same("lightLeft before the issue", room.lightLeft(0), -1);
        room.issue(0);
        checks.same("lightLeft of a full lamp", room.lightLeft(0), 12);
        room.back(0);
        room.issue(0);
        checks.same("lightLeft of 11.64", room.lightLeft(0), 11);
        room.hours(11);
        checks.same("lightLeft of 0.64", room.lightLeft(0), 0);
        room.hours(1);
        checks.same("lightLeft in the dark", room.lightLeft(0), 0);
        room.back(0);
        checks.same("lightLeft after back", room.lightLeft(0), -1);
        noSuchNumber("lightLeft", 2, room::lightLeft);
        LampRoom leaking = Rooms.with(Rooms.kinds(2), 2);
        Rooms.turns(leaking, 0, 7);
        leaking.issue(0);
        checks.same("lightLeft does not see a leak", leaking.lightLeft(0), 16);
    }

    private void promise21RackCharge() {
        LampRoom room = Rooms.with(Rooms.kinds(0, 1, 2), 0, 1);
        checks.same("rackCharge of full lamps", room.rackCharge(), 100);
        room.issue(0);
        room.hours(3);
        checks.same("rackCharge without the one out", room.rackCharge(), 100);
        room.back(0);
        double share = (9.0 + 16.0 + 20.0) / (12.0 * 0.97 + 16.0 + 20.0);
        checks.same("rackCharge by the sums", room.rackCharge(), (int) (share * 100.0));
        checks.same("rackCharge drops the rest", room.rackCharge(), 94);
        room.hours(2);
        checks.same("rackCharge of full lamps again", room.rackCharge(), 100);
        emptyLamps();
    }

    private void emptyLamps() {
        LampRoom room = Rooms.with(Rooms.kinds(2), 2);
        room.issue(0);
        room.hours(20);
        checks.same("rackCharge with all out", room.rackCharge(), 0);
        room.back(0);
        checks.same("rackCharge of an empty lamp", room.rackCharge(), 0);
        room.hours(1);
        checks.same("rackCharge of 2.5 of 19.4", room.rackCharge(), 12);
    }

    private void promise21OnlyTheRack() {
        LampRoom room = Rooms.with(Rooms.kinds(0, 1), 1);
        Rooms.turns(room, 0, 9);
        room.issue(0);
        room.hours(4);
        room.back(0);
        checks.same("rackCharge with the low lamp", room.rackCharge() < 100, true);
        room.test(1);
        checks.same("rackCharge with the low lamp aside", room.rackCharge(), 100);
        room.mend(1);
        checks.same("the low lamp is scrapped", room.placeOf(1), LampRoom.SCRAPPED);
        checks.same("rackCharge with the low lamp scrapped", room.rackCharge(), 100);
    }
}
