/** Promise 19: the alarms that last, in the order in which they began. */
public final class AlarmsTest {
    private final Checks checks = new Checks();

    public static void main(String[] args) {
        new AlarmsTest().run();
    }

    private void run() {
        checks.sentence("Returns twice the number of the miner, and LATE or DARK", this::twiceTheNumber);
        checks.sentence("in the order in which they began", this::orderOfBeginning);
        checks.sentence("in the order in which they began", this::notTheOrderOfIssuing);
        checks.sentence("if both begin in the same hour", this::hoursOfOneCall);
        checks.sentence("or for several miners, then by the numbers of the miners", this::byMiners);
        checks.sentence("then by the numbers of the miners", this::minersAheadOfKinds);
        checks.sentence("and for one miner LATE first", this::lateFirst);
        checks.sentence("by the numbers of the miners, and for one miner LATE first", this::bothForSeveral);
        checks.sentence("The alarms that last.", this::endWithTheTally);
        checks.sentence("The alarms that last.", this::beginAnew);
        checks.sentence("0 for the one that began first", this::sixtyAlarms);
        checks.sentence("-1 if there are not so many", this::notSoMany);
        checks.finish();
    }

    private void twiceTheNumber() {
        LampRoom room = Rooms.pairs(4);
        room.issue(3);
        room.hours(10);
        checks.same("late", room.alarm(0), 6);
        room.hours(10);
        checks.same("dark", room.alarm(1), 7);
    }

    private void orderOfBeginning() {
        LampRoom room = Rooms.with(Rooms.kinds(0, 0, 2), 2, 0, 0);
        room.issue(2);
        room.hours(2);
        room.issue(0);
        room.hours(1);
        room.issue(1);
        room.hours(7);
        checks.same("late: 2", Answers.alarms(room), "4");
        room.hours(2);
        checks.same("late: 0, dark: 2", Answers.alarms(room), "4 0 5");
        room.hours(1);
        checks.same("late: 1", Answers.alarms(room), "4 0 5 2");
        room.hours(9);
        checks.same("dark: 1, then 0", Answers.alarms(room), "4 0 5 2 3 1");
    }

    private void notTheOrderOfIssuing() {
        LampRoom room = Rooms.with(Rooms.kinds(2, 0), 2, 0);
        Rooms.turns(room, 1, 7);
        room.issue(0);
        room.hours(2);
        room.issue(1);
        room.hours(7);
        checks.same("dark by a leak: 1", Answers.alarms(room), "3");
        room.hours(1);
        checks.same("late: 0", Answers.alarms(room), "3 0");
    }

    private void hoursOfOneCall() {
        LampRoom room = Rooms.pairs(3);
        room.issue(2);
        room.hours(1);
        room.issue(1);
        room.hours(1);
        room.issue(0);
        checks.same("hours(100)", room.hours(100), 6);
        checks.same("alarms", Answers.alarms(room), "4 2 0 5 3 1");
    }

    private void byMiners() {
        LampRoom room = Rooms.pairs(4);
        Rooms.issueAll(room, 3, 1, 2, 0);
        room.hours(10);
        checks.same("all late in one hour", Answers.alarms(room), "0 2 4 6");
        room.hours(10);
        checks.same("all dark in one hour", Answers.alarms(room), "0 2 4 6 1 3 5 7");
    }

    private void minersAheadOfKinds() {
        LampRoom darkLate = Rooms.with(Rooms.kinds(0, 2), 0, 2);
        darkLate.issue(0);
        darkLate.hours(2);
        darkLate.issue(1);
        darkLate.hours(10);
        checks.same("dark: 0, late: 1 in one hour", Answers.alarms(darkLate), "0 1 2");
        LampRoom lateDark = Rooms.with(Rooms.kinds(2, 0), 2, 0);
        lateDark.issue(1);
        lateDark.hours(2);
        lateDark.issue(0);
        lateDark.hours(10);
        checks.same("late: 0, dark: 1 in one hour", Answers.alarms(lateDark), "2 0 3");
    }

    /** A room with pairs of class 0 below, whose alarms all begin with the tenth hour: 9.4 was left in each lamp. */
    private static LampRoom lateAndDark(int count) {
        LampRoom room = Rooms.with(new int[count], new int[count]);
        for (int turn = 1; turn <= 8; turn++) {
            for (int miner = 0; miner < count; miner++) {
                room.issue(miner);
            }
            for (int miner = 0; miner < count; miner++) {
                room.back(miner);
            }
        }
        for (int number = 0; number < count; number++) {
            Rooms.testAndMend(room, number);
        }
        for (int miner = count - 1; miner >= 0; miner--) {
            room.issue(miner);
        }
        room.hours(9);
        return room;
    }

    private void lateFirst() {
        LampRoom room = lateAndDark(1);
        checks.same("alarms at 9 hours", Answers.alarms(room), "");
        checks.same("the tenth", room.hours(1), 2);
        checks.same("alarms", Answers.alarms(room), "0 1");
    }

    private void bothForSeveral() {
        LampRoom room = lateAndDark(3);
        checks.same("alarms at 9 hours", Answers.alarms(room), "");
        checks.same("the tenth", room.hours(1), 6);
        checks.same("alarms", Answers.alarms(room), "0 1 2 3 4 5");
    }

    private void endWithTheTally() {
        LampRoom room = Rooms.pairs(3);
        Rooms.issueAll(room, 0, 1, 2);
        room.hours(20);
        checks.same("alarms of three", Answers.alarms(room), "0 2 4 1 3 5");
        room.back(1);
        checks.same("alarms of two", Answers.alarms(room), "0 4 1 5");
        room.back(0);
        checks.same("alarms of one", Answers.alarms(room), "4 5");
        room.back(2);
        checks.same("alarms of none", Answers.alarms(room), "");
    }

    private void beginAnew() {
        LampRoom room = Rooms.pairs(2);
        Rooms.issueAll(room, 0, 1);
        room.hours(20);
        room.back(0);
        room.hours(5);
        room.issue(0);
        checks.same("alarms at the issue", Answers.alarms(room), "2 3");
        room.hours(10);
        checks.same("alarms at 10 hours", Answers.alarms(room), "2 3 0");
        room.hours(10);
        checks.same("alarms at 20 hours", Answers.alarms(room), "2 3 0 1");
    }

    private static LampRoom sixty() {
        LampRoom room = Rooms.full();
        for (int miner = 29; miner >= 0; miner--) {
            room.issue(miner);
        }
        room.hours(12);
        return room;
    }

    private void sixtyAlarms() {
        LampRoom room = sixty();
        for (int place = 0; place < 60; place++) {
            int due = place < 30 ? 2 * place : 2 * (place - 30) + 1;
            checks.same("alarm(" + place + ")", room.alarm(place), due);
        }
    }

    private void notSoMany() {
        LampRoom room = Rooms.pairs(2);
        checks.same("alarm(0) with none", room.alarm(0), -1);
        room.issue(0);
        room.hours(10);
        checks.same("alarm(1) with one", room.alarm(1), -1);
        LampRoom full = sixty();
        int[] places = {60, 61, -1, Integer.MIN_VALUE, Integer.MAX_VALUE};
        for (int place : places) {
            checks.same("alarm(" + place + ") with 60", full.alarm(place), -1);
        }
    }
}
