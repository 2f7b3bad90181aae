/** Promises 1 to 8: a new object and the keeper's calls. */
public final class KeeperTest {
    private static final int[] WRONG_NUMBERS = {-1, 1, 2, 40, Integer.MIN_VALUE, Integer.MAX_VALUE};

    private final Checks checks = new Checks();

    public static void main(String[] args) {
        KeeperTest test = new KeeperTest();
        test.promise1NewObject();
        test.promise2AddLamp();
        test.promise2FortyLamps();
        test.promise3AddMiner();
        test.promise3ThirtyMiners();
        test.promise4IssueOwnClass();
        test.promise4IssueHigherClass();
        test.promise4ChargeOfNine();
        test.promise4WrongCalls();
        test.promise5Back();
        test.promise5WrongCalls();
        test.promise6SeventhTurn();
        test.promise6Weak();
        test.promise6LeakAheadOfWeak();
        test.promise6WrongCalls();
        test.promise7MendsLeak();
        test.promise7Scraps();
        test.promise7WrongCalls();
        test.promise8Loss();
        test.promise8Gain();
        test.promise8FirstFive();
        test.promise8FullOnesTakeNoPlace();
        test.promise8Late();
        test.promise8Dark();
        test.promise8WrongHours();
        test.checks.finish();
    }

    private void promise1NewObject() {
        LampRoom room = new LampRoom();
        checks.same("below of a new room", room.below(), 0);
        checks.same("board(0) of a new room", room.board(0), -1);
        checks.same("alarm(0) of a new room", room.alarm(0), -1);
        checks.same("spares of a new room", room.spares(), 0);
        checks.same("rackCharge of a new room", room.rackCharge(), 0);
        for (int kind = 0; kind < 3; kind++) {
            checks.same("ready of a new room", room.ready(kind), 0);
        }
        checks.noSuch("placeOf(0) of a new room", () -> room.placeOf(0));
        checks.noSuch("lampOf(0) of a new room", () -> room.lampOf(0));
        checks.same("hours(100) of a new room", room.hours(100), 0);
    }

    private void promise2AddLamp() {
        LampRoom room = new LampRoom();
        double[] capacities = {12.0, 16.0, 20.0};
        for (int lamp = 0; lamp < 3; lamp++) {
            checks.same("addLamp", room.addLamp(lamp), lamp);
            checks.same("capacity of a new lamp", room.capacityOf(lamp), capacities[lamp]);
            checks.same("charge of a new lamp", room.chargeOf(lamp), capacities[lamp]);
            checks.same("place of a new lamp", room.placeOf(lamp), LampRoom.RACK);
            checks.same("turns of a new lamp", room.turnsOf(lamp), 0);
            checks.same("test of a new lamp", room.test(lamp), LampRoom.SOUND);
        }
        for (int kind : Rooms.WRONG_KINDS) {
            checks.badArgument("addLamp(" + kind + ")", () -> room.addLamp(kind));
        }
        checks.same("addLamp after a wrong class", room.addLamp(2), 3);
    }

    private void promise2FortyLamps() {
        LampRoom room = new LampRoom();
        for (int lamp = 0; lamp < 40; lamp++) {
            checks.same("addLamp up to 40", room.addLamp(0), lamp);
        }
        checks.badState("the 41st lamp", () -> room.addLamp(0));
        checks.badArgument("the 41st lamp, of no class", () -> room.addLamp(3));
        checks.same("the 40th lamp", room.chargeOf(39), 12.0);
        checks.noSuch("no 41st lamp came", () -> room.chargeOf(40));
        scrappedOnesCount();
    }

    private void scrappedOnesCount() {
        LampRoom room = Rooms.with(Rooms.kinds(1), 1);
        scrapWeak(room);
        for (int lamp = 1; lamp < 40; lamp++) {
            room.addLamp(2);
        }
        checks.same("the first lamp is scrapped", room.placeOf(0), LampRoom.SCRAPPED);
        checks.badState("the 41st lamp, one scrapped", () -> room.addLamp(2));
    }

    /** Wears the one lamp of a room until it is weak, and scraps it. */
    private static void scrapWeak(LampRoom room) {
        Rooms.turns(room, 0, 10);
        room.test(0);
        room.mend(0);
    }

    private void promise3AddMiner() {
        LampRoom room = new LampRoom();
        for (int miner = 0; miner < 3; miner++) {
            checks.same("addMiner", room.addMiner(miner), miner);
            checks.same("lamp of a new miner", room.lampOf(miner), -1);
        }
        checks.same("below with new miners", room.below(), 0);
        for (int kind : Rooms.WRONG_KINDS) {
            checks.badArgument("addMiner(" + kind + ")", () -> room.addMiner(kind));
        }
        checks.same("addMiner after a wrong class", room.addMiner(0), 3);
    }

    private void promise3ThirtyMiners() {
        LampRoom room = new LampRoom();
        for (int miner = 0; miner < 30; miner++) {
            checks.same("addMiner up to 30", room.addMiner(miner % 3), miner);
        }
        checks.badState("the 31st miner", () -> room.addMiner(0));
        checks.badArgument("the 31st miner, of no class", () -> room.addMiner(-1));
        checks.same("the 30th miner", room.hoursBelow(29), -1);
        checks.noSuch("no 31st miner came", () -> room.hoursBelow(30));
    }

    private void promise4IssueOwnClass() {
        LampRoom room = Rooms.with(Rooms.kinds(2, 1, 1, 0), 1, 1, 1, 1);
        checks.same("least number of the fullest", room.issue(0), 1);
        room.hours(1);
        room.back(0);
        checks.same("the greatest charge", room.issue(1), 2);
        checks.same("the last of the class", room.issue(2), 1);
        checks.same("lamp out", room.placeOf(1), LampRoom.OUT);
        checks.same("tally on the board", room.lampOf(2), 1);
        checks.same("hours at the issue", room.hoursBelow(2), 0);
    }

    private void promise4IssueHigherClass() {
        LampRoom room = Rooms.with(Rooms.kinds(2, 1, 2), 0, 0, 0, 0);
        checks.same("the next class", room.issue(0), 1);
        checks.same("the class after it", room.issue(1), 0);
        checks.same("the class after it, again", room.issue(2), 2);
        checks.badState("no lamp left", () -> room.issue(3));
        LampRoom low = Rooms.with(Rooms.kinds(0, 1), 2);
        checks.badState("no lamp of a lower class", () -> low.issue(0));
    }

    private void promise4ChargeOfNine() {
        LampRoom room = Rooms.with(Rooms.kinds(2), 2, 2);
        room.issue(0);
        room.hours(11);
        room.back(0);
        checks.same("a charge of 9.0", room.chargeOf(0), 9.0);
        checks.same("a lamp of 9.0 goes out", room.issue(1), 0);
        room.hours(1);
        room.back(1);
        checks.same("a charge of 8.0", room.chargeOf(0), 8.0);
        checks.badState("a lamp of 8.0 stays", () -> room.issue(1));
        checks.same("the miner stays above", room.lampOf(1), -1);
        room.hours(1);
        checks.same("a lamp of 10.5 goes out", room.issue(1), 0);
        lowLampOfOwnClass();
        wornBelowNine();
    }

    private void wornBelowNine() {
        LampRoom room = Rooms.with(Rooms.kinds(0), 0);
        Rooms.turns(room, 0, 10);
        checks.same("a full lamp of less than 9.0", room.chargeOf(0), Rooms.worn(12.0, 10));
        checks.badState("a full lamp of less than 9.0 stays", () -> room.issue(0));
        checks.same("it is not ready", room.ready(0), 0);
    }

    private void lowLampOfOwnClass() {
        LampRoom room = Rooms.with(Rooms.kinds(0, 1), 0);
        room.issue(0);
        room.hours(4);
        room.back(0);
        checks.same("an own lamp below 9.0 makes a spare", room.issue(0), 1);
    }

    private void promise4WrongCalls() {
        LampRoom room = Rooms.with(Rooms.kinds(0, 0), 0);
        for (int miner : WRONG_NUMBERS) {
            checks.noSuch("issue(" + miner + ")", () -> room.issue(miner));
        }
        room.issue(0);
        checks.badState("issue with the tally on the board", () -> room.issue(0));
        checks.same("the miner keeps the lamp", room.lampOf(0), 0);
        checks.same("the other lamp stays", room.placeOf(1), LampRoom.RACK);
    }

    private void promise5Back() {
        LampRoom room = Rooms.with(Rooms.kinds(1, 1), 1, 1);
        room.issue(0);
        room.hours(5);
        checks.same("back after 5 hours", room.back(0), 5);
        checks.same("lamp on the rack again", room.placeOf(0), LampRoom.RACK);
        checks.same("tally off the board", room.lampOf(0), -1);
        checks.same("one turn", room.turnsOf(0), 1);
        checks.same("capacity after a turn", room.capacityOf(0), 16.0 * 0.97);
        checks.same("charge below the capacity stays", room.chargeOf(0), 11.0);
        room.issue(1);
        checks.same("back at once", room.back(1), 0);
        checks.same("charge cut to the capacity", room.chargeOf(1), 16.0 * 0.97);
        Rooms.turns(room, 1, 1);
        room.hours(2);
        room.issue(0);
        room.hours(3);
        checks.same("hours count anew", room.back(0), 3);
        wearsTurnByTurn();
    }

    private void wearsTurnByTurn() {
        LampRoom room = Rooms.with(Rooms.kinds(2), 2);
        for (int turn = 1; turn <= 20; turn++) {
            Rooms.turns(room, 0, 1);
            checks.same("capacity turn by turn", room.capacityOf(0), Rooms.worn(20.0, turn));
            checks.same("charge turn by turn", room.chargeOf(0), Rooms.worn(20.0, turn));
            checks.same("turns", room.turnsOf(0), turn);
        }
    }

    private void promise5WrongCalls() {
        LampRoom room = Rooms.with(Rooms.kinds(0), 0);
        for (int miner : WRONG_NUMBERS) {
            checks.noSuch("back(" + miner + ")", () -> room.back(miner));
        }
        checks.badState("back without a lamp", () -> room.back(0));
        Rooms.turns(room, 0, 1);
        checks.badState("back for the second time", () -> room.back(0));
        checks.same("no turn by a refused call", room.turnsOf(0), 1);
    }

    private void promise6SeventhTurn() {
        LampRoom room = Rooms.with(Rooms.kinds(1), 1);
        for (int turn = 1; turn <= 6; turn++) {
            Rooms.turns(room, 0, 1);
            checks.same("test after turn " + turn, room.test(0), LampRoom.SOUND);
        }
        checks.same("a sound lamp stays", room.placeOf(0), LampRoom.RACK);
        Rooms.turns(room, 0, 1);
        checks.same("an unseen leak leaves the lamp", room.placeOf(0), LampRoom.RACK);
        checks.same("test after turn 7", room.test(0), LampRoom.LEAKING);
        checks.same("a leaking lamp is set aside", room.placeOf(0), LampRoom.ASIDE);
        leakStaysUntilMended();
        leaksAgainAtFourteen();
    }

    private void leakStaysUntilMended() {
        LampRoom room = Rooms.with(Rooms.kinds(1), 1);
        Rooms.turns(room, 0, 9);
        checks.same("test after turn 9", room.test(0), LampRoom.LEAKING);
        room.mend(0);
        checks.same("test after mending", room.test(0), LampRoom.SOUND);
    }

    private void leaksAgainAtFourteen() {
        LampRoom room = Rooms.with(Rooms.kinds(2), 2);
        Rooms.turns(room, 0, 7);
        room.test(0);
        room.mend(0);
        Rooms.turns(room, 0, 2);
        checks.same("test after turn 9, mended", room.test(0), LampRoom.SOUND);
        Rooms.turns(room, 0, 5);
        checks.same("turns", room.turnsOf(0), 14);
        checks.same("test after turn 14", room.test(0), LampRoom.LEAKING);
    }

    private void promise6Weak() {
        double[] capacities = {12.0, 16.0, 20.0};
        for (int kind = 0; kind < 3; kind++) {
            LampRoom room = Rooms.with(Rooms.kinds(kind), kind);
            Rooms.turns(room, 0, 7);
            room.test(0);
            room.mend(0);
            Rooms.turns(room, 0, 2);
            checks.same("0.75 not reached", room.capacityOf(0) < 0.75 * capacities[kind], false);
            checks.same("test above 0.75", room.test(0), LampRoom.SOUND);
            Rooms.turns(room, 0, 1);
            checks.same("below 0.75", room.capacityOf(0) < 0.75 * capacities[kind], true);
            checks.same("test below 0.75", room.test(0), LampRoom.WEAK);
            checks.same("a weak lamp is set aside", room.placeOf(0), LampRoom.ASIDE);
        }
    }

    private void promise6LeakAheadOfWeak() {
        LampRoom room = Rooms.with(Rooms.kinds(1), 1);
        Rooms.turns(room, 0, 10);
        checks.same("test of a weak lamp that leaks", room.test(0), LampRoom.LEAKING);
        checks.same("it is set aside", room.placeOf(0), LampRoom.ASIDE);
    }

    private void promise6WrongCalls() {
        LampRoom room = Rooms.with(Rooms.kinds(0), 0);
        for (int lamp : WRONG_NUMBERS) {
            checks.noSuch("test(" + lamp + ")", () -> room.test(lamp));
        }
        room.issue(0);
        checks.badState("test of a lamp that is out", () -> room.test(0));
        room.back(0);
        Rooms.turns(room, 0, 6);
        room.test(0);
        checks.badState("test of a lamp set aside", () -> room.test(0));
        LampRoom scrap = Rooms.with(Rooms.kinds(1), 1);
        scrapWeak(scrap);
        checks.badState("test of a scrapped lamp", () -> scrap.test(0));
    }

    private void promise7MendsLeak() {
        LampRoom room = Rooms.with(Rooms.kinds(2), 2);
        Rooms.turns(room, 0, 6);
        room.issue(0);
        room.hours(4);
        room.back(0);
        double charge = room.chargeOf(0);
        room.test(0);
        room.hours(10);
        checks.same("a lamp set aside gains nothing", room.chargeOf(0), charge);
        checks.badState("a lamp set aside is not issued", () -> room.issue(0));
        checks.same("mend of a leak", room.mend(0), true);
        checks.same("it is on the rack", room.placeOf(0), LampRoom.RACK);
        checks.same("with the charge it has", room.chargeOf(0), charge);
        checks.same("turns stay", room.turnsOf(0), 7);
        checks.same("capacity stays", room.capacityOf(0), Rooms.worn(20.0, 7));
        room.issue(0);
        room.hours(1);
        checks.same("no leak any more", room.chargeOf(0), charge - 1.0);
    }

    private void promise7Scraps() {
        LampRoom room = Rooms.with(Rooms.kinds(1), 1);
        Rooms.turns(room, 0, 7);
        room.test(0);
        room.mend(0);
        Rooms.turns(room, 0, 3);
        checks.same("weak alone", room.test(0), LampRoom.WEAK);
        checks.same("mend of a weak lamp", room.mend(0), false);
        checks.same("it is scrapped", room.placeOf(0), LampRoom.SCRAPPED);
        LampRoom both = Rooms.with(Rooms.kinds(1), 1);
        Rooms.turns(both, 0, 10);
        checks.same("leaking and weak", both.test(0), LampRoom.LEAKING);
        checks.same("mend of both faults", both.mend(0), false);
        checks.same("scrapped with both faults", both.placeOf(0), LampRoom.SCRAPPED);
        checks.badState("a scrapped lamp is not issued", () -> both.issue(0));
    }

    private void promise7WrongCalls() {
        LampRoom room = Rooms.with(Rooms.kinds(1), 1);
        for (int lamp : WRONG_NUMBERS) {
            checks.noSuch("mend(" + lamp + ")", () -> room.mend(lamp));
        }
        checks.badState("mend of a lamp on the rack", () -> room.mend(0));
        room.issue(0);
        checks.badState("mend of a lamp that is out", () -> room.mend(0));
        room.back(0);
        Rooms.turns(room, 0, 9);
        checks.badState("mend of a leak that nobody saw", () -> room.mend(0));
        room.test(0);
        room.mend(0);
        checks.badState("mend of a scrapped lamp", () -> room.mend(0));
    }

    private void promise8Loss() {
        LampRoom room = Rooms.with(Rooms.kinds(2), 2);
        room.issue(0);
        room.hours(1);
        checks.same("loss of an hour", room.chargeOf(0), 19.0);
        room.hours(100);
        checks.same("no more than it has", room.chargeOf(0), 0.0);
        LampRoom leaking = Rooms.with(Rooms.kinds(2), 2);
        Rooms.turns(leaking, 0, 7);
        double charge = leaking.chargeOf(0);
        leaking.issue(0);
        leaking.hours(1);
        checks.same("loss of a leaking lamp", leaking.chargeOf(0), charge - 1.5);
        leaking.hours(9);
        checks.same("a leaking lamp after 10 hours", leaking.chargeOf(0), loseHourly(charge, 10));
        leaking.hours(1);
        checks.same("a leaking lamp at its end", leaking.chargeOf(0), 0.0);
    }

    private static double loseHourly(double charge, int hours) {
        double left = charge;
        for (int i = 0; i < hours; i++) {
            left = left - 1.5;
        }
        return left;
    }

    private void promise8Gain() {
        LampRoom room = Rooms.with(Rooms.kinds(2), 2);
        room.issue(0);
        room.hours(15);
        room.back(0);
        double[] charges = {7.5, 10.0, 12.5, 15.0, 17.5, 19.4, 19.4};
        for (double charge : charges) {
            room.hours(1);
            checks.same("gain of an hour", room.chargeOf(0), charge);
        }
    }

    private void promise8FirstFive() {
        LampRoom room = Rooms.with(Rooms.kinds(2, 2, 2, 2, 2, 2, 2), 2, 2, 2, 2, 2, 2, 2);
        for (int miner = 0; miner < 7; miner++) {
            room.issue(miner);
        }
        room.hours(10);
        for (int miner = 6; miner >= 0; miner--) {
            room.back(miner);
        }
        room.hours(3);
        for (int lamp = 0; lamp < 7; lamp++) {
            checks.same("the first 5 gain", room.chargeOf(lamp), lamp < 5 ? 17.5 : 10.0);
        }
        room.hours(1);
        checks.same("the fifth is full", room.chargeOf(4), 19.4);
        checks.same("the sixth has waited", room.chargeOf(5), 10.0);
        room.hours(1);
        checks.same("the sixth gains now", room.chargeOf(5), 12.5);
        checks.same("the seventh too", room.chargeOf(6), 12.5);
    }

    private void promise8FullOnesTakeNoPlace() {
        LampRoom room = Rooms.with(Rooms.kinds(0, 0, 0, 0, 0, 1, 2), 1, 2);
        room.issue(0);
        room.issue(1);
        room.hours(5);
        room.back(0);
        room.back(1);
        room.hours(1);
        checks.same("a lamp behind five full ones", room.chargeOf(5), 13.5);
        checks.same("and the one behind it", room.chargeOf(6), 17.5);
        checks.same("a full one stays full", room.chargeOf(0), 12.0);
    }

    private void promise8Late() {
        LampRoom room = Rooms.with(Rooms.kinds(2, 2), 2, 2);
        room.issue(0);
        checks.same("9 hours are not late", room.hours(9), 0);
        checks.same("no alarm at 9 hours", room.alarm(0), -1);
        room.issue(1);
        checks.same("10 hours are late", room.hours(1), 1);
        checks.same("late for miner 0", room.alarm(0), LampRoom.LATE);
        checks.same("no alarm begins twice", room.hours(8), 0);
        checks.same("late for miner 1", room.hours(1), 1);
        checks.same("dark for miner 0", room.hours(1), 1);
        room.back(0);
        room.hours(8);
        room.issue(0);
        checks.same("an alarm may begin anew", room.hours(10), 2);
    }

    private void promise8Dark() {
        LampRoom room = Rooms.with(Rooms.kinds(0), 0);
        room.issue(0);
        checks.same("late after 11 hours", room.hours(11), 1);
        checks.same("a charge of 1.0", room.chargeOf(0), 1.0);
        checks.same("dark at 0.0", room.hours(1), 1);
        checks.same("a charge of 0.0", room.chargeOf(0), 0.0);
        checks.same("dark after late", room.alarm(1), LampRoom.DARK);
        LampRoom leaking = Rooms.with(Rooms.kinds(0), 0);
        Rooms.turns(leaking, 0, 7);
        leaking.issue(0);
        checks.same("dark ahead of late by a leak", leaking.hours(7), 1);
        checks.same("it is dark", leaking.alarm(0), LampRoom.DARK);
        checks.same("late follows", leaking.hours(3), 1);
        checks.same("it is late", leaking.alarm(1), LampRoom.LATE);
    }

    private void promise8WrongHours() {
        LampRoom room = Rooms.with(Rooms.kinds(2), 2);
        room.issue(0);
        int[] wrong = {0, -1, 101, Integer.MIN_VALUE, Integer.MAX_VALUE};
        for (int hours : wrong) {
            checks.badArgument("hours(" + hours + ")", () -> room.hours(hours));
        }
        checks.same("no hour went by", room.hoursBelow(0), 0);
        checks.same("no charge was lost", room.chargeOf(0), 20.0);
        checks.same("hours(1)", room.hours(1), 0);
        checks.same("hours(100)", room.hours(100), 2);
        checks.same("101 hours went by", room.hoursBelow(0), 101);
    }
}
