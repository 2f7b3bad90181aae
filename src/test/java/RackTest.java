/** Promises 13, 14 and 21: where each lamp is, its charge, and the charge of the rack. */
public final class RackTest {
    private final Checks checks = new Checks();

    public static void main(String[] args) {
        new RackTest().run();
    }

    private void run() {
        checks.sentence("Returns RACK, OUT, ASIDE or SCRAPPED.", this::places);
        checks.sentence("Returns hours of light.", this::charges);
        checks.sentence("placeOf and chargeOf: if there is no such lamp", this::noSuchLamp);
        checks.sentence("The charge of all lamps on the rack", this::allOnTheRack);
        checks.sentence("of all lamps on the rack", this::onlyTheRack);
        checks.sentence("as hundredths of their capacity: the sums", this::sums);
        checks.sentence("by rising numbers", this::byRisingNumbers);
        checks.sentence("the quotient times 100.0", this::quotientFirst);
        checks.sentence("made a whole number by dropping what is behind the point", this::dropped);
        checks.sentence("0 without lamps on the rack", this::noneOnTheRack);
        checks.finish();
    }

    private void places() {
        LampRoom room = Rooms.with(Rooms.kinds(1, 2), 1);
        checks.same("a new lamp", room.placeOf(0), 0);
        room.issue(0);
        checks.same("issued", room.placeOf(0), 1);
        room.back(0);
        checks.same("back", room.placeOf(0), 0);
        Rooms.turns(room, 0, 9);
        room.test(0);
        checks.same("with a fault", room.placeOf(0), 2);
        room.mend(0);
        checks.same("weak", room.placeOf(0), 3);
        checks.same("the other", room.placeOf(1), 0);
    }

    private void charges() {
        LampRoom room = Rooms.with(Rooms.kinds(2, 0), 0, 2);
        Rooms.issueAll(room, 0, 1);
        room.hours(3);
        checks.same("chargeOf lamp 0", room.chargeOf(0), 17.0);
        checks.same("chargeOf lamp 1", room.chargeOf(1), 9.0);
        room.back(1);
        room.hours(1);
        checks.same("chargeOf lamp 0 on the rack", room.chargeOf(0), 20.0 * 0.97);
        checks.same("chargeOf lamp 1 still out", room.chargeOf(1), 8.0);
    }

    private void noSuchLamp() {
        LampRoom room = Rooms.with(Rooms.kinds(0, 1), 0, 0, 0, 0);
        checks.noSuchNumber("placeOf", 2, room::placeOf);
        checks.noSuchNumber("chargeOf", 2, room::chargeOf);
        checks.noSuchNumber("placeOf of 40", 40, Rooms.full()::placeOf);
        checks.noSuchNumber("chargeOf of 40", 40, Rooms.full()::chargeOf);
    }

    private void allOnTheRack() {
        LampRoom room = Rooms.with(Rooms.kinds(0, 1, 2), 0);
        checks.same("full lamps", room.rackCharge(), 100);
        Rooms.turnOf(room, 0, 12);
        checks.same("one empty", room.rackCharge(), (int) (36.0 / (36.0 + 12.0 * 0.97) * 100.0));
        room.hours(5);
        checks.same("full lamps again", room.rackCharge(), 100);
    }

    private void onlyTheRack() {
        LampRoom room = Rooms.with(Rooms.kinds(0, 1), 1);
        Rooms.turns(room, 0, 9);
        room.issue(0);
        room.hours(4);
        checks.same("the low lamp out", room.rackCharge(), 100);
        room.back(0);
        checks.same("the low lamp on the rack", room.rackCharge() < 100, true);
        room.test(1);
        checks.same("the low lamp aside", room.rackCharge(), 100);
        room.mend(1);
        checks.same("placeOf the low lamp", room.placeOf(1), LampRoom.SCRAPPED);
        checks.same("the low lamp scrapped", room.rackCharge(), 100);
    }

    private void sums() {
        LampRoom room = Rooms.with(Rooms.kinds(0, 1), 0);
        Rooms.turnOf(room, 0, 2);
        checks.same("10.0 of 11.64 and 16.0 of 16.0", room.rackCharge(), 94);
        LampRoom empty = Rooms.pair(2);
        Rooms.turnOf(empty, 0, 20);
        checks.same("0.0 of 19.4", empty.rackCharge(), 0);
        empty.hours(1);
        checks.same("2.5 of 19.4", empty.rackCharge(), 12);
    }

    // Summed by falling numbers, the same charges make 75.
    private void byRisingNumbers() {
        LampRoom room = Rooms.with(Rooms.kinds(2, 1, 0), 2, 1, 0);
        Rooms.turns(room, 0, 2);
        Rooms.turns(room, 1, 2);
        Rooms.turns(room, 2, 1);
        Rooms.turnOf(room, 2, 12);
        checks.same("turnsOf each", room.turnsOf(0) + room.turnsOf(1) + room.turnsOf(2), 6);
        checks.same("chargeOf the last", room.chargeOf(2), 0.0);
        checks.same("class 2 and 1 full, class 0 empty", room.rackCharge(), 74);
    }

    // The sum times 100.0 ahead of the division makes 99 of the first, the capacity's hundredth 99 of the second.
    private void quotientFirst() {
        LampRoom worn = Rooms.with(Rooms.kinds(0, 0), 0);
        Rooms.turns(worn, 0, 3);
        checks.same("turnsOf lamp 0", worn.turnsOf(0), 2);
        checks.same("full lamps after 2 turns and 1", worn.rackCharge(), 100);
        checks.same("full lamps of 16.0 and 12.0", Rooms.with(Rooms.kinds(1, 0)).rackCharge(), 100);
    }

    private void dropped() {
        LampRoom room = Rooms.pair(0);
        Rooms.turnOf(room, 0, 1);
        checks.same("11.0 of 11.64, which is 94.5", room.rackCharge(), 94);
        Rooms.turns(room, 0, 1);
        checks.same("11.0 of 11.29, which is 97.4", room.rackCharge(), 97);
    }

    private void noneOnTheRack() {
        LampRoom room = new LampRoom();
        checks.same("without lamps", room.rackCharge(), 0);
        room.addMiner(1);
        room.addLamp(1);
        room.issue(0);
        checks.same("with all out", room.rackCharge(), 0);
        room.back(0);
        Rooms.turns(room, 0, 9);
        room.test(0);
        checks.same("with all aside", room.rackCharge(), 0);
        room.mend(0);
        checks.same("with all scrapped", room.rackCharge(), 0);
    }
}
