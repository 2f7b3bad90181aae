/** Promises 4, 17 and 18: which lamp is issued, how many are ready, and which are spares. */
public final class IssueTest {
    private final Checks checks = new Checks();

    public static void main(String[] args) {
        new IssueTest().run();
    }

    private void run() {
        checks.sentence("Issues a lamp; the tally goes on the board. Returns the lamp.", this::lampAndTally);
        checks.sentence("it is one of the rack", this::oneOfTheRack);
        checks.sentence("with a charge of 9.0 or more", this::nineOrMore);
        checks.sentence("with a charge of 9.0 or more", this::justBelowNine);
        checks.sentence("with a charge of 9.0 or more", this::fullBelowNine);
        checks.sentence("of the class of the miner", this::ownClassFirst);
        checks.sentence("the one with the greatest charge", this::greatestCharge);
        checks.sentence("of several the one with the least number", this::leastNumber);
        checks.sentence("if there is none of this class, then one of the next higher class", this::nextHigher);
        checks.sentence("if there is none of this class", this::noneOfNineInClass);
        checks.sentence("and so on", this::secondNextHigher);
        checks.sentence("told in the same way", this::higherInTheSameWay);
        checks.sentence("if the tally is on the board", this::tallyOnBoard);
        checks.sentence("or there is no lamp", this::noLamp);
        checks.sentence("issue: if there is no such miner", this::noSuchMiner);
        checks.sentence("A lamp of a higher class in such hands is called a spare.", this::spareByClass);
        checks.sentence("How many lamps are out as spares.", this::sparesOut);
        checks.sentence("How many lamps of a class could be issued now", this::readyByClass);
        checks.sentence("(to anybody)", this::readyToAnybody);
        checks.sentence("could be issued now", this::readyOfNine);
        checks.sentence("could be issued now", this::readyOnTheRack);
        checks.sentence("ready: if there is no such class", this::noSuchKind);
        checks.finish();
    }

    private void lampAndTally() {
        LampRoom room = Rooms.with(Rooms.kinds(2, 1), 2, 1);
        checks.same("issue", room.issue(1), 1);
        checks.same("placeOf", room.placeOf(1), LampRoom.OUT);
        checks.same("lampOf", room.lampOf(1), 1);
        checks.same("hoursBelow", room.hoursBelow(1), 0);
        checks.same("board", Answers.board(room), "1");
        checks.same("placeOf the other", room.placeOf(0), LampRoom.RACK);
        checks.same("lampOf the other", room.lampOf(0), -1);
    }

    private void oneOfTheRack() {
        LampRoom room = Rooms.with(Rooms.kinds(2), 2, 2);
        Rooms.turns(room, 0, 10);
        room.test(0);
        checks.badState("with the one lamp aside", () -> room.issue(0));
        room.mend(0);
        checks.badState("with the one lamp scrapped", () -> room.issue(0));
        room.addLamp(2);
        checks.same("with another on the rack", room.issue(0), 1);
        checks.badState("with the one lamp out", () -> room.issue(1));
    }

    private void nineOrMore() {
        LampRoom room = Rooms.pair(2);
        Rooms.turnOf(room, 0, 11);
        checks.same("chargeOf", room.chargeOf(0), 9.0);
        checks.same("issue at 9.0", room.issue(0), 0);
        room.hours(1);
        room.back(0);
        checks.same("chargeOf", room.chargeOf(0), 8.0);
        checks.badState("issue at 8.0", () -> room.issue(0));
        room.hours(1);
        checks.same("issue at 10.5", room.issue(0), 0);
    }

    // 8.9957 is the greatest charge below 9.0 that a lamp can come to.
    private void justBelowNine() {
        LampRoom room = Rooms.pair(0);
        Rooms.turns(room, 0, 6);
        Rooms.turnOf(room, 0, 1);
        checks.same("chargeOf", room.chargeOf(0), Rooms.worn(12.0, 6) - 1.0);
        checks.same("8.9957 is left", room.chargeOf(0) > 8.995 && room.chargeOf(0) < 9.0, true);
        checks.same("ready at 8.9957", room.ready(0), 0);
        checks.badState("issue at 8.9957", () -> room.issue(0));
        room.hours(1);
        checks.same("ready at 9.6958", room.ready(0), 1);
        checks.same("issue at 9.6958", room.issue(0), 0);
    }

    private void fullBelowNine() {
        LampRoom room = Rooms.pair(1);
        Rooms.turns(room, 0, 18);
        checks.same("issue at 9.25", room.issue(0), 0);
        room.back(0);
        checks.same("chargeOf", room.chargeOf(0), Rooms.worn(16.0, 19));
        checks.same("8.97 is left", room.chargeOf(0) > 8.96 && room.chargeOf(0) < 9.0, true);
        checks.badState("issue of a full lamp at 8.97", () -> room.issue(0));
        room.hours(100);
        checks.badState("issue of it later on", () -> room.issue(0));
    }

    private void ownClassFirst() {
        LampRoom room = Rooms.with(Rooms.kinds(2, 1, 0), 1, 0);
        Rooms.turnOf(room, 0, 6);
        checks.same("a fuller one of class 2 is there", room.issue(0), 1);
        checks.same("fuller ones of other classes are there", room.issue(1), 2);
    }

    private void greatestCharge() {
        LampRoom room = Rooms.with(Rooms.kinds(1, 1, 1), 1, 1, 1);
        Rooms.issueAll(room, 0, 1, 2);
        room.back(1);
        room.hours(2);
        room.back(2);
        room.hours(1);
        room.back(0);
        checks.same("charge of lamp 0", room.chargeOf(0), 13.0);
        checks.same("charge of lamp 1", room.chargeOf(1), 16.0 * 0.97);
        checks.same("charge of lamp 2", room.chargeOf(2), 16.0 * 0.97);
        checks.same("of 13.0, 15.52 and 15.52", room.issue(0), 1);
        checks.same("of 13.0 and 15.52", room.issue(1), 2);
        checks.same("of 13.0 alone", room.issue(2), 0);
    }

    private void leastNumber() {
        LampRoom room = Rooms.with(Rooms.kinds(0, 1, 1, 1), 1, 1, 1);
        for (int miner = 0; miner < 3; miner++) {
            checks.same("of full lamps", room.issue(miner), miner + 1);
        }
        for (int miner = 2; miner >= 0; miner--) {
            room.back(miner);
        }
        checks.same("the first that came back is no matter", room.issue(2), 1);
    }

    private void nextHigher() {
        LampRoom room = Rooms.with(Rooms.kinds(2, 1, 2), 0, 1);
        checks.same("class 1 for a miner of class 0", room.issue(0), 1);
        checks.same("class 2 for a miner of class 1", room.issue(1), 0);
    }

    private void noneOfNineInClass() {
        LampRoom room = Rooms.with(Rooms.kinds(0, 1), 0);
        Rooms.turnOf(room, 0, 4);
        checks.same("chargeOf its own", room.chargeOf(0), 8.0);
        checks.same("the own one has 8.0", room.issue(0), 1);
    }

    private void secondNextHigher() {
        LampRoom room = Rooms.with(Rooms.kinds(2), 0, 0);
        checks.same("class 2 for a miner of class 0", room.issue(0), 0);
        room.addLamp(1);
        checks.same("class 1 for a miner of class 0", room.issue(1), 1);
    }

    private void higherInTheSameWay() {
        LampRoom room = Rooms.with(Rooms.kinds(1, 1, 1, 2), 0, 0);
        Rooms.turnOf(room, 0, 3);
        checks.same("charge of lamp 0", room.chargeOf(0), 13.0);
        checks.same("of 13.0, 16.0 and 16.0", room.issue(0), 1);
        checks.same("of 13.0 and 16.0", room.issue(1), 2);
    }

    private void tallyOnBoard() {
        LampRoom room = Rooms.with(Rooms.kinds(0, 0), 0);
        room.issue(0);
        checks.badState("at once", () -> room.issue(0));
        room.hours(100);
        checks.badState("after 100 hours", () -> room.issue(0));
        checks.same("lampOf", room.lampOf(0), 0);
        checks.same("placeOf the other lamp", room.placeOf(1), LampRoom.RACK);
        room.back(0);
        checks.same("with the tally off the board", room.issue(0), 1);
    }

    private void noLamp() {
        LampRoom room = Rooms.with(Rooms.kinds(), 1, 2, 0);
        for (int miner = 0; miner < 3; miner++) {
            int refused = miner;
            checks.badState("without lamps", () -> room.issue(refused));
        }
        room.addLamp(0);
        checks.badState("class 1, with class 0 on the rack", () -> room.issue(0));
        room.addLamp(1);
        checks.badState("class 2, with 0 and 1 on the rack", () -> room.issue(1));
        Rooms.issueAll(room, 0, 2);
        checks.badState("with all lamps out", () -> room.issue(1));
    }

    private void noSuchMiner() {
        LampRoom room = Rooms.with(Rooms.kinds(0, 0, 0), 0, 0);
        checks.noSuchNumber("issue", 2, room::issue);
        checks.noSuchNumber("issue of 30", 30, Rooms.full()::issue);
    }

    private void spareByClass() {
        for (int minerKind = 0; minerKind < 3; minerKind++) {
            for (int lampKind = minerKind; lampKind < 3; lampKind++) {
                LampRoom room = Rooms.with(Rooms.kinds(lampKind), minerKind);
                room.issue(0);
                checks.same("class " + lampKind + " with " + minerKind, room.spares(), lampKind > minerKind ? 1 : 0);
            }
        }
    }

    private void sparesOut() {
        LampRoom room = Rooms.with(Rooms.kinds(0, 1, 2, 2), 0, 0, 1, 2);
        int[] due = {0, 1, 2, 2};
        checks.same("with none out", room.spares(), 0);
        for (int miner = 0; miner < 4; miner++) {
            room.issue(miner);
            checks.same("with " + (miner + 1) + " out", room.spares(), due[miner]);
        }
        room.back(1);
        checks.same("with one spare back", room.spares(), 1);
        room.back(2);
        checks.same("with both back", room.spares(), 0);
    }

    private void readyByClass() {
        LampRoom room = Rooms.with(Rooms.kinds(2, 0, 1, 2, 1, 2), 0, 1, 2);
        for (int kind = 0; kind < 3; kind++) {
            checks.same("ready(" + kind + ")", room.ready(kind), kind + 1);
        }
        room.issue(1);
        checks.same("ready(0) with one of 1 out", room.ready(0), 1);
        checks.same("ready(1) with one of 1 out", room.ready(1), 1);
        checks.same("ready(2) with one of 1 out", room.ready(2), 3);
    }

    private void readyToAnybody() {
        LampRoom room = Rooms.with(Rooms.kinds(0, 0, 1));
        checks.same("without miners", room.ready(0), 2);
        room.addMiner(2);
        checks.same("with a miner of class 2 alone", room.ready(0), 2);
        room.addMiner(1);
        room.issue(1);
        room.addLamp(1);
        checks.same("with the miner of class 1 below", room.ready(1), 1);
    }

    private void readyOfNine() {
        LampRoom room = Rooms.pair(1);
        Rooms.turnOf(room, 0, 7);
        checks.same("chargeOf", room.chargeOf(0), 9.0);
        checks.same("ready at 9.0", room.ready(1), 1);
        Rooms.turnOf(room, 0, 1);
        checks.same("ready at 8.0", room.ready(1), 0);
        room.hours(1);
        checks.same("ready at 10.5", room.ready(1), 1);
    }

    private void readyOnTheRack() {
        LampRoom room = Rooms.pair(2);
        room.addLamp(2);
        Rooms.turns(room, 0, 14);
        checks.same("with faults that nobody saw", room.ready(2), 2);
        room.test(0);
        checks.same("with one aside", room.ready(2), 1);
        room.issue(0);
        checks.same("with one aside, one out", room.ready(2), 0);
        room.mend(0);
        checks.same("with one mended, one out", room.ready(2), 1);
        LampRoom worn = Rooms.pair(1);
        Rooms.turns(worn, 0, 10);
        Rooms.testAndMend(worn, 0);
        checks.same("with the one lamp scrapped", worn.ready(1), 0);
    }

    private void noSuchKind() {
        checks.noSuchKind("ready", new LampRoom()::ready);
        checks.noSuchKind("ready of a full room", Rooms.full()::ready);
    }
}
