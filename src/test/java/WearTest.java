/** Promises 5, 15 and 16: a lamp comes back, with a turn more and less capacity. */
public final class WearTest {
    private final Checks checks = new Checks();

    public static void main(String[] args) {
        new WearTest().run();
    }

    private void run() {
        checks.sentence("Takes a lamp back to the rack; the tally comes off the board.", this::lampAndTally);
        checks.sentence("Returns how many hours the miner was below.", this::hoursReturned);
        checks.sentence("when a lamp comes back, it has gone through one turn more", this::oneTurnMore);
        checks.sentence("How many turns a lamp has gone through.", this::turnsOfEachLamp);
        checks.sentence("its capacity becomes what it was times 0.97, turn by turn", this::turnByTurn);
        checks.sentence("Each time when a lamp comes back", this::onlyWhenBack);
        checks.sentence("a charge that is greater than that then becomes the capacity", this::greaterCharge);
        checks.sentence("a charge that is greater than that", this::lessCharge);
        checks.sentence("if the tally is not on the board", this::tallyNotOnBoard);
        checks.sentence("back: if there is no such miner", this::noSuchMiner);
        checks.sentence("capacityOf and turnsOf: if there is no such lamp", this::noSuchLamp);
        checks.finish();
    }

    private void lampAndTally() {
        LampRoom room = Rooms.with(Rooms.kinds(1, 1), 1, 1);
        Rooms.issueAll(room, 1, 0);
        room.hours(5);
        room.back(1);
        checks.same("placeOf", room.placeOf(0), LampRoom.RACK);
        checks.same("lampOf", room.lampOf(1), -1);
        checks.same("board", Answers.board(room), "0");
        checks.same("placeOf the other", room.placeOf(1), LampRoom.OUT);
        checks.same("lampOf the other", room.lampOf(0), 1);
    }

    private void hoursReturned() {
        LampRoom room = Rooms.pairs(2);
        room.issue(0);
        checks.same("at once", room.back(0), 0);
        room.hours(4);
        room.issue(0);
        room.hours(1);
        room.issue(1);
        room.hours(7);
        checks.same("after 8 hours, others ahead", room.back(0), 8);
        room.hours(100);
        room.hours(43);
        checks.same("after 150 hours", room.back(1), 150);
        room.issue(1);
        room.hours(2);
        checks.same("counted anew", room.back(1), 2);
    }

    private void oneTurnMore() {
        LampRoom room = Rooms.pair(2);
        checks.same("turnsOf a new lamp", room.turnsOf(0), 0);
        room.issue(0);
        room.hours(20);
        checks.same("turnsOf a lamp that is out", room.turnsOf(0), 0);
        room.back(0);
        checks.same("turnsOf after back", room.turnsOf(0), 1);
        room.hours(20);
        Rooms.turns(room, 0, 1);
        checks.same("turnsOf, the second without an hour", room.turnsOf(0), 2);
    }

    private void turnsOfEachLamp() {
        LampRoom room = Rooms.with(Rooms.kinds(0, 1, 2), 0, 1, 2);
        Rooms.turns(room, 1, 9);
        Rooms.turns(room, 2, 2);
        Rooms.testAndMend(room, 1);
        checks.same("turnsOf lamp 0", room.turnsOf(0), 0);
        checks.same("turnsOf lamp 1, mended", room.turnsOf(1), 9);
        checks.same("turnsOf lamp 2", room.turnsOf(2), 2);
        Rooms.turns(room, 1, 1);
        Rooms.testAndMend(room, 1);
        checks.same("turnsOf lamp 1, scrapped", room.turnsOf(1), 10);
    }

    private void turnByTurn() {
        double[] full = {12.0, 16.0, 20.0};
        int[] most = {10, 19, 27};
        for (int kind = 0; kind < 3; kind++) {
            LampRoom room = Rooms.pair(kind);
            for (int turn = 1; turn <= most[kind]; turn++) {
                Rooms.turns(room, 0, 1);
                checks.same("capacityOf after turn " + turn, room.capacityOf(0), Rooms.worn(full[kind], turn));
            }
        }
    }

    private void onlyWhenBack() {
        LampRoom room = Rooms.pairs(2);
        room.issue(0);
        room.hours(50);
        checks.same("capacityOf a lamp that is out", room.capacityOf(0), 20.0);
        checks.same("capacityOf a lamp on the rack", room.capacityOf(1), 20.0);
        room.back(0);
        room.hours(50);
        checks.same("capacityOf a lamp back for 50 hours", room.capacityOf(0), 20.0 * 0.97);
        checks.same("capacityOf the other", room.capacityOf(1), 20.0);
    }

    private void greaterCharge() {
        LampRoom room = Rooms.pair(2);
        Rooms.turns(room, 0, 1);
        checks.same("chargeOf, full before", room.chargeOf(0), 20.0 * 0.97);
        Rooms.turnOf(room, 0, 1);
        double charge = 20.0 * 0.97 - 1.0;
        checks.same("chargeOf, below the capacity", room.chargeOf(0), charge);
        Rooms.turns(room, 0, 1);
        checks.same("chargeOf, not full and greater", room.chargeOf(0), Rooms.worn(20.0, 3));
        checks.same("not full before", charge < Rooms.worn(20.0, 2), true);
    }

    private void lessCharge() {
        LampRoom room = Rooms.pair(2);
        Rooms.turnOf(room, 0, 1);
        checks.same("chargeOf, 19.0 of 19.4", room.chargeOf(0), 19.0);
        LampRoom empty = Rooms.pair(0);
        Rooms.turnOf(empty, 0, 12);
        checks.same("chargeOf an empty one", empty.chargeOf(0), 0.0);
    }

    private void tallyNotOnBoard() {
        LampRoom room = Rooms.pairs(2);
        checks.badState("before an issue", () -> room.back(0));
        Rooms.issueAll(room, 0, 1);
        room.back(0);
        checks.badState("a second time", () -> room.back(0));
        checks.same("turnsOf", room.turnsOf(0), 1);
        checks.same("the other", room.back(1), 0);
    }

    private void noSuchMiner() {
        LampRoom room = Rooms.with(Rooms.kinds(0, 0, 0), 0, 0);
        Rooms.issueAll(room, 0, 1);
        checks.noSuchNumber("back", 2, room::back);
        checks.noSuchNumber("back of 30", 30, Rooms.full()::back);
    }

    private void noSuchLamp() {
        LampRoom room = Rooms.with(Rooms.kinds(0, 1), 0, 0, 0, 0);
        checks.noSuchNumber("capacityOf", 2, room::capacityOf);
        checks.noSuchNumber("turnsOf", 2, room::turnsOf);
        checks.noSuchNumber("capacityOf of 40", 40, Rooms.full()::capacityOf);
        checks.noSuchNumber("turnsOf of 40", 40, Rooms.full()::turnsOf);
    }
}
