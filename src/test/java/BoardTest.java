/** Promises 9 to 12 and 20: the tallies on the board, and what is read of the miners below. */
public final class BoardTest {
    private final Checks checks = new Checks();

    public static void main(String[] args) {
        new BoardTest().run();
    }

    private void run() {
        checks.sentence("How many tallies are on the board.", this::howMany);
        checks.sentence("the tally hangs on the board until the lamp comes back", this::untilTheLampIsBack);
        checks.sentence("by the hour at which they went on it", this::byTheHour);
        checks.sentence("then by the order of issuing", this::byTheOrderOfIssuing);
        checks.sentence("by the order of issuing", this::issuedAnew);
        checks.sentence("0 for the first one", this::fullBoard);
        checks.sentence("-1 if there are not so many", this::notSoMany);
        checks.sentence("lampOf: Returns the lamp", this::lampOf);
        checks.sentence("lampOf: -1 if the tally is not on the board", this::noLampOf);
        checks.sentence("For how many hours a miner has been below.", this::hoursBelow);
        checks.sentence("For how many hours", this::longBelow);
        checks.sentence("hoursBelow: -1 if the tally is not on the board", this::noHoursBelow);
        checks.sentence("its charge, made a whole number by dropping what is behind the point", this::lightLeft);
        checks.sentence("if the lamp does not leak", this::lightLeftOfLeak);
        checks.sentence("lightLeft: -1 if the tally is not on the board", this::noLightLeft);
        checks.sentence("lampOf, hoursBelow and lightLeft: if there is no such miner", this::noSuchMiner);
        checks.finish();
    }

    private void howMany() {
        LampRoom room = Rooms.full();
        for (int miner = 0; miner < 30; miner++) {
            checks.same("below", room.below(), miner);
            room.issue(29 - miner);
        }
        checks.same("below with all", room.below(), 30);
        room.back(3);
        checks.same("below with one back", room.below(), 29);
    }

    private void untilTheLampIsBack() {
        LampRoom room = Rooms.pairs(3);
        Rooms.issueAll(room, 0, 1, 2);
        room.hours(100);
        checks.same("board, all late and dark", Answers.board(room), "0 1 2");
        room.back(1);
        checks.same("board with one back", Answers.board(room), "0 2");
        room.back(0);
        room.back(2);
        checks.same("board with none", Answers.board(room), "");
        checks.same("below with none", room.below(), 0);
    }

    private void byTheHour() {
        LampRoom room = Rooms.pairs(4);
        int[] miners = {2, 0, 3, 1};
        for (int miner : miners) {
            room.issue(miner);
            room.hours(1);
        }
        checks.same("board", Answers.board(room), "2 0 3 1");
        room.back(0);
        checks.same("board with one back", Answers.board(room), "2 3 1");
    }

    private void byTheOrderOfIssuing() {
        LampRoom room = Rooms.pairs(5);
        room.hours(3);
        Rooms.issueAll(room, 4, 1, 3);
        checks.same("board in one hour", Answers.board(room), "4 1 3");
        room.hours(1);
        Rooms.issueAll(room, 2, 0);
        checks.same("board in two hours", Answers.board(room), "4 1 3 2 0");
    }

    private void issuedAnew() {
        LampRoom room = Rooms.pairs(3);
        Rooms.issueAll(room, 0, 1, 2);
        room.back(0);
        room.issue(0);
        checks.same("board, one anew in the same hour", Answers.board(room), "1 2 0");
        room.hours(1);
        room.back(2);
        room.issue(2);
        checks.same("board, one anew an hour later", Answers.board(room), "1 0 2");
    }

    private void fullBoard() {
        LampRoom room = Rooms.full();
        for (int miner = 29; miner >= 0; miner--) {
            room.issue(miner);
        }
        for (int place = 0; place < 30; place++) {
            checks.same("board(" + place + ")", room.board(place), 29 - place);
        }
    }

    private void notSoMany() {
        LampRoom room = Rooms.full();
        for (int miner = 0; miner < 30; miner++) {
            checks.same("board(" + miner + ") with " + miner, room.board(miner), -1);
            room.issue(miner);
        }
        int[] places = {30, 31, -1, Integer.MIN_VALUE, Integer.MAX_VALUE};
        for (int place : places) {
            checks.same("board(" + place + ") with 30", room.board(place), -1);
        }
    }

    private void lampOf() {
        LampRoom room = Rooms.with(Rooms.kinds(0, 1, 2), 2, 0);
        Rooms.issueAll(room, 0, 1);
        checks.same("lampOf miner 0", room.lampOf(0), 2);
        checks.same("lampOf miner 1", room.lampOf(1), 0);
    }

    private void noLampOf() {
        LampRoom room = Rooms.pairs(2);
        checks.same("before an issue", room.lampOf(0), -1);
        Rooms.issueAll(room, 0, 1);
        room.back(0);
        checks.same("behind back", room.lampOf(0), -1);
        checks.same("of the other", room.lampOf(1), 1);
    }

    private void hoursBelow() {
        LampRoom room = Rooms.pairs(2);
        room.hours(4);
        room.issue(0);
        checks.same("at the issue", room.hoursBelow(0), 0);
        room.hours(3);
        room.issue(1);
        room.hours(2);
        checks.same("miner 0", room.hoursBelow(0), 5);
        checks.same("miner 1", room.hoursBelow(1), 2);
        room.back(0);
        room.hours(1);
        room.issue(0);
        checks.same("counted anew", room.hoursBelow(0), 0);
    }

    private void longBelow() {
        LampRoom room = Rooms.pair(0);
        room.issue(0);
        for (int i = 0; i < 500; i++) {
            room.hours(100);
        }
        checks.same("hoursBelow", room.hoursBelow(0), 50000);
        checks.same("alarms", Answers.alarms(room), "0 1");
        checks.same("back", room.back(0), 50000);
    }

    private void noHoursBelow() {
        LampRoom room = Rooms.pair(0);
        room.hours(5);
        checks.same("before an issue", room.hoursBelow(0), -1);
        Rooms.turnOf(room, 0, 2);
        checks.same("behind back", room.hoursBelow(0), -1);
    }

    private void lightLeft() {
        LampRoom room = Rooms.pair(0);
        room.issue(0);
        checks.same("of 12.0", room.lightLeft(0), 12);
        room.back(0);
        room.issue(0);
        checks.same("of 11.64", room.lightLeft(0), 11);
        room.hours(11);
        checks.same("of 0.64", room.lightLeft(0), 0);
        room.hours(1);
        checks.same("of 0.0", room.lightLeft(0), 0);
    }

    private void lightLeftOfLeak() {
        LampRoom room = Rooms.pair(2);
        Rooms.turns(room, 0, 7);
        room.issue(0);
        checks.same("of 16.16", room.lightLeft(0), 16);
        room.hours(1);
        checks.same("of 14.66", room.lightLeft(0), 14);
    }

    private void noLightLeft() {
        LampRoom room = Rooms.pair(2);
        checks.same("before an issue", room.lightLeft(0), -1);
        Rooms.turnOf(room, 0, 2);
        checks.same("behind back", room.lightLeft(0), -1);
    }

    private void noSuchMiner() {
        LampRoom room = Rooms.with(Rooms.kinds(0, 0, 0, 0), 0, 0);
        Rooms.issueAll(room, 0, 1);
        checks.noSuchNumber("lampOf", 2, room::lampOf);
        checks.noSuchNumber("hoursBelow", 2, room::hoursBelow);
        checks.noSuchNumber("lightLeft", 2, room::lightLeft);
        LampRoom full = Rooms.full();
        checks.noSuchNumber("lampOf of 30", 30, full::lampOf);
        checks.noSuchNumber("hoursBelow of 30", 30, full::hoursBelow);
        checks.noSuchNumber("lightLeft of 30", 30, full::lightLeft);
    }
}
