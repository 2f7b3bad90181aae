/** Promises 1 to 3: a new room, and new lamps and miners in it. */
public final class AddingTest {
    private final Checks checks = new Checks();

    public static void main(String[] args) {
        new AddingTest().run();
    }

    private void run() {
        checks.sentence("A lamp room without lamps and miners.", this::newRoom);
        checks.sentence("A lamp room without lamps and miners.", this::noNumbersYet);
        checks.sentence("a new lamp holds 12.0, 16.0 or 20.0 hours of light by its class", this::newCapacities);
        checks.sentence("a new one comes to the rack full", this::newLampsFull);
        checks.sentence("Puts a new lamp on the rack. Returns its number, from 0.", this::lampNumbers);
        checks.sentence("addLamp: if there is no such class", this::noSuchLampKind);
        checks.sentence("if there are 40 lamps", this::fortyLamps);
        checks.sentence("if there are 40 lamps, scrapped ones too", this::scrappedOnesToo);
        checks.sentence("addLamp: no such class, ahead of 40 lamps", this::fullOfLampsAndNoKind);
        checks.sentence("Returns the number of the miner and the tally, from 0.", this::minerNumbers);
        checks.sentence("addMiner: if there is no such class", this::noSuchMinerKind);
        checks.sentence("if there are 30 miners", this::thirtyMiners);
        checks.sentence("addMiner: no such class, ahead of 30 miners", this::fullOfMinersAndNoKind);
        checks.finish();
    }

    private void newRoom() {
        LampRoom room = new LampRoom();
        checks.same("below", room.below(), 0);
        checks.same("board(0)", room.board(0), -1);
        checks.same("alarm(0)", room.alarm(0), -1);
        checks.same("spares", room.spares(), 0);
        checks.same("rackCharge", room.rackCharge(), 0);
        for (int kind = 0; kind < 3; kind++) {
            checks.same("ready", room.ready(kind), 0);
        }
        checks.same("hours(100)", room.hours(100), 0);
    }

    private void noNumbersYet() {
        LampRoom room = new LampRoom();
        checks.noSuchNumber("issue", 0, room::issue);
        checks.noSuchNumber("back", 0, room::back);
        checks.noSuchNumber("test", 0, room::test);
        checks.noSuchNumber("mend", 0, room::mend);
        checks.noSuchNumber("lampOf", 0, room::lampOf);
        checks.noSuchNumber("hoursBelow", 0, room::hoursBelow);
        checks.noSuchNumber("lightLeft", 0, room::lightLeft);
        checks.noSuchNumber("placeOf", 0, room::placeOf);
        checks.noSuchNumber("chargeOf", 0, room::chargeOf);
        checks.noSuchNumber("capacityOf", 0, room::capacityOf);
        checks.noSuchNumber("turnsOf", 0, room::turnsOf);
    }

    private void newCapacities() {
        LampRoom room = Rooms.with(Rooms.kinds(0, 1, 2, 0));
        checks.same("capacityOf class 0", room.capacityOf(0), 12.0);
        checks.same("capacityOf class 1", room.capacityOf(1), 16.0);
        checks.same("capacityOf class 2", room.capacityOf(2), 20.0);
        checks.same("capacityOf class 0 again", room.capacityOf(3), 12.0);
    }

    private void newLampsFull() {
        LampRoom room = Rooms.with(Rooms.kinds(2, 1, 0));
        double[] full = {20.0, 16.0, 12.0};
        for (int lamp = 0; lamp < 3; lamp++) {
            checks.same("placeOf", room.placeOf(lamp), LampRoom.RACK);
            checks.same("chargeOf", room.chargeOf(lamp), full[lamp]);
            checks.same("turnsOf", room.turnsOf(lamp), 0);
            checks.same("test", room.test(lamp), LampRoom.SOUND);
        }
    }

    private void lampNumbers() {
        LampRoom room = new LampRoom();
        int[] kinds = {2, 0, 1, 1, 0, 2};
        for (int lamp = 0; lamp < kinds.length; lamp++) {
            checks.same("addLamp", room.addLamp(kinds[lamp]), lamp);
        }
        room.addMiner(0);
        checks.same("addLamp behind a miner", room.addLamp(0), 6);
    }

    private void noSuchLampKind() {
        LampRoom room = new LampRoom();
        checks.noSuchKind("addLamp", room::addLamp);
        checks.same("the least class", room.addLamp(0), 0);
        checks.same("the greatest class", room.addLamp(2), 1);
    }

    private void fortyLamps() {
        LampRoom room = new LampRoom();
        for (int lamp = 0; lamp < 40; lamp++) {
            checks.same("addLamp up to 40", room.addLamp(lamp % 3), lamp);
        }
        for (int kind = 0; kind < 3; kind++) {
            int refused = kind;
            checks.badState("the 41st lamp", () -> room.addLamp(refused));
        }
        checks.same("capacityOf the 40th", room.capacityOf(39), 12.0);
        checks.noSuchNumber("capacityOf", 40, room::capacityOf);
    }

    private void scrappedOnesToo() {
        LampRoom room = Rooms.pair(1);
        Rooms.turns(room, 0, 10);
        Rooms.testAndMend(room, 0);
        checks.same("placeOf the first", room.placeOf(0), LampRoom.SCRAPPED);
        for (int lamp = 1; lamp < 40; lamp++) {
            checks.same("addLamp up to 40", room.addLamp(2), lamp);
        }
        room.issue(0);
        checks.badState("the 41st lamp", () -> room.addLamp(2));
    }

    private void fullOfLampsAndNoKind() {
        LampRoom room = Rooms.full();
        checks.noSuchKind("addLamp", room::addLamp);
    }

    private void minerNumbers() {
        LampRoom room = new LampRoom();
        int[] kinds = {1, 2, 0, 0, 2};
        for (int miner = 0; miner < kinds.length; miner++) {
            checks.same("addMiner", room.addMiner(kinds[miner]), miner);
            checks.same("lampOf", room.lampOf(miner), -1);
        }
        room.addLamp(0);
        checks.same("addMiner behind a lamp", room.addMiner(0), 5);
        checks.same("below", room.below(), 0);
    }

    private void noSuchMinerKind() {
        LampRoom room = new LampRoom();
        checks.noSuchKind("addMiner", room::addMiner);
        checks.same("the least class", room.addMiner(0), 0);
        checks.same("the greatest class", room.addMiner(2), 1);
    }

    private void thirtyMiners() {
        LampRoom room = new LampRoom();
        for (int miner = 0; miner < 30; miner++) {
            checks.same("addMiner up to 30", room.addMiner(miner % 3), miner);
        }
        for (int kind = 0; kind < 3; kind++) {
            int refused = kind;
            checks.badState("the 31st miner", () -> room.addMiner(refused));
        }
        checks.same("lampOf the 30th", room.lampOf(29), -1);
        checks.noSuchNumber("lampOf", 30, room::lampOf);
    }

    private void fullOfMinersAndNoKind() {
        LampRoom room = Rooms.full();
        checks.noSuchKind("addMiner", room::addMiner);
    }
}
