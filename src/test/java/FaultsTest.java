/** Promises 6 and 7: leaks, weak lamps, what a test finds and what mending does. */
public final class FaultsTest {
    private static final double[] FULL = {12.0, 16.0, 20.0};

    private final Checks checks = new Checks();

    public static void main(String[] args) {
        new FaultsTest().run();
    }

    private void run() {
        checks.sentence("Returns SOUND, LEAKING or WEAK.", this::eachFinding);
        checks.sentence("a lamp leaks after every seventh turn it went through", this::afterTheSeventh);
        checks.sentence("(the 7th, the 14th and so on)", this::afterTheFourteenth);
        checks.sentence("(the 7th, the 14th and so on)", this::fourteenthOfAllTurns);
        checks.sentence("until it is mended", this::untilMended);
        checks.sentence("below 0.75 times that of a new one of its class", this::belowThreeQuarters);
        checks.sentence("Nobody sees a fault before a test", this::nobodySees);
        checks.sentence("loses 1.5 in an hour in place of 1.0 when it is out", this::leakLoss);
        checks.sentence("loses 1.5 in an hour", this::leakLossNoMoreThanItHas);
        checks.sentence("when it is out", this::noLeakLossOnTheRack);
        checks.sentence("a lamp that leaks loses 1.5", this::othersLoseOne);
        checks.sentence("finds LEAKING ahead of WEAK", this::leakingAheadOfWeak);
        checks.sentence("a lamp with either is set aside", this::eitherSetAside);
        checks.sentence("set aside with a fault", this::soundStays);
        checks.sentence("test: if it is not on the rack", this::testNotOnTheRack);
        checks.sentence("Mending ends a leak", this::mendingEndsLeak);
        checks.sentence("brings the lamp back to the rack if it is not weak", this::backToTheRack);
        checks.sentence("with the charge that it has", this::chargeStays);
        checks.sentence("a weak one is scrapped", this::weakScrapped);
        checks.sentence("a weak one is scrapped", this::leakingAndWeakScrapped);
        checks.sentence("mend: if it is not set aside", this::mendNotAside);
        checks.sentence("test and mend: if there is no such lamp", this::noSuchLamp);
        checks.finish();
    }

    /** What a test finds of a lamp that leaked after the 7th turn, and was mended after so many. */
    private static int foundAfter(int kind, int turnsBeforeMending, int turns) {
        LampRoom room = Rooms.pair(kind);
        Rooms.turns(room, 0, turnsBeforeMending);
        Rooms.testAndMend(room, 0);
        Rooms.turns(room, 0, turns - turnsBeforeMending);
        return room.test(0);
    }

    private static LampRoom turned(int kind, int turns) {
        LampRoom room = Rooms.pair(kind);
        Rooms.turns(room, 0, turns);
        return room;
    }

    private void eachFinding() {
        checks.same("test of a new lamp", Rooms.pair(0).test(0), 0);
        checks.same("test after 7 turns", turned(0, 7).test(0), 1);
        checks.same("test after 10 turns, mended", Rooms.mendedAtSeven(0, 10).test(0), 2);
    }

    private void afterTheSeventh() {
        for (int kind = 0; kind < 3; kind++) {
            LampRoom room = Rooms.pair(kind);
            for (int turn = 1; turn <= 6; turn++) {
                Rooms.turns(room, 0, 1);
                checks.same("test after turn " + turn, room.test(0), LampRoom.SOUND);
            }
            Rooms.turns(room, 0, 1);
            checks.same("test after turn 7", room.test(0), LampRoom.LEAKING);
        }
    }

    private void afterTheFourteenth() {
        for (int turns = 8; turns <= 13; turns++) {
            int due = turns < 10 ? LampRoom.SOUND : LampRoom.WEAK;
            checks.same("test after turn " + turns, foundAfter(2, 7, turns), due);
        }
        checks.same("test after turn 14", foundAfter(2, 7, 14), LampRoom.LEAKING);
    }

    private void fourteenthOfAllTurns() {
        checks.same("mended after turn 9, test after 13", foundAfter(2, 9, 13), LampRoom.WEAK);
        checks.same("mended after turn 9, test after 14", foundAfter(2, 9, 14), LampRoom.LEAKING);
    }

    private void untilMended() {
        for (int turns = 7; turns <= 20; turns++) {
            checks.same("never mended, test after turn " + turns, turned(2, turns).test(0), LampRoom.LEAKING);
        }
        LampRoom room = turned(2, 7);
        room.hours(100);
        checks.same("time mends nothing", room.test(0), LampRoom.LEAKING);
    }

    private void belowThreeQuarters() {
        for (int kind = 0; kind < 3; kind++) {
            LampRoom room = Rooms.mendedAtSeven(kind, 9);
            checks.same("0.760 of a new one", room.capacityOf(0), Rooms.worn(FULL[kind], 9));
            checks.same("test at 0.760", room.test(0), LampRoom.SOUND);
            Rooms.turns(room, 0, 1);
            checks.same("0.737 of a new one", room.capacityOf(0), Rooms.worn(FULL[kind], 10));
            checks.same("test at 0.737", room.test(0), LampRoom.WEAK);
        }
    }

    private void nobodySees() {
        LampRoom leaking = turned(2, 7);
        checks.same("placeOf a leaking lamp", leaking.placeOf(0), LampRoom.RACK);
        checks.same("ready with a leaking lamp", leaking.ready(2), 1);
        checks.same("issue of a leaking lamp", leaking.issue(0), 0);
        LampRoom weak = Rooms.mendedAtSeven(2, 10);
        checks.same("placeOf a weak lamp", weak.placeOf(0), LampRoom.RACK);
        checks.same("ready with a weak lamp", weak.ready(2), 1);
        checks.same("issue of a weak lamp", weak.issue(0), 0);
    }

    private void leakLoss() {
        LampRoom room = turned(2, 7);
        double charge = room.chargeOf(0);
        room.issue(0);
        for (int hour = 1; hour <= 10; hour++) {
            room.hours(1);
            charge = charge - 1.5;
            checks.same("chargeOf in hour " + hour, room.chargeOf(0), charge);
        }
    }

    private void leakLossNoMoreThanItHas() {
        LampRoom room = turned(2, 7);
        room.issue(0);
        room.hours(10);
        double charge = room.chargeOf(0);
        checks.same("from 1.0 to 1.5 are left", charge > 1.0 && charge < 1.5, true);
        room.hours(1);
        checks.same("chargeOf at the end", room.chargeOf(0), 0.0);
        room.hours(1);
        checks.same("chargeOf behind the end", room.chargeOf(0), 0.0);
    }

    private void noLeakLossOnTheRack() {
        LampRoom room = turned(2, 6);
        Rooms.turnOf(room, 0, 10);
        double charge = room.chargeOf(0);
        room.hours(1);
        checks.same("a leaking lamp on the rack", room.chargeOf(0), charge + 2.5);
        room.test(0);
        room.hours(9);
        checks.same("a leaking lamp aside", room.chargeOf(0), charge + 2.5);
    }

    private void othersLoseOne() {
        LampRoom room = Rooms.mendedAtSeven(2, 10);
        room.addLamp(1);
        room.addMiner(1);
        room.issue(0);
        room.issue(1);
        double charge = room.chargeOf(0);
        room.hours(1);
        checks.same("a weak lamp", room.chargeOf(0), charge - 1.0);
        checks.same("a sound lamp", room.chargeOf(1), 15.0);
        LampRoom six = turned(2, 6);
        charge = six.chargeOf(0);
        six.issue(0);
        six.hours(1);
        checks.same("a lamp on its seventh turn", six.chargeOf(0), charge - 1.0);
    }

    private void leakingAheadOfWeak() {
        LampRoom room = turned(1, 10);
        checks.same("capacity below 0.75", room.capacityOf(0) < 0.75 * 16.0, true);
        checks.same("test", room.test(0), LampRoom.LEAKING);
    }

    private void eitherSetAside() {
        LampRoom leaking = turned(0, 7);
        leaking.test(0);
        checks.same("placeOf a leaking lamp", leaking.placeOf(0), LampRoom.ASIDE);
        LampRoom weak = Rooms.mendedAtSeven(0, 10);
        weak.test(0);
        checks.same("placeOf a weak lamp", weak.placeOf(0), LampRoom.ASIDE);
        LampRoom both = turned(1, 10);
        both.test(0);
        checks.same("placeOf a lamp with both", both.placeOf(0), LampRoom.ASIDE);
    }

    private void soundStays() {
        LampRoom room = Rooms.pairs(2);
        Rooms.turns(room, 0, 2);
        checks.same("test", room.test(0), LampRoom.SOUND);
        checks.same("placeOf", room.placeOf(0), LampRoom.RACK);
        checks.same("test again", room.test(0), LampRoom.SOUND);
        checks.same("issue", room.issue(0), 0);
    }

    private void testNotOnTheRack() {
        LampRoom room = turned(1, 9);
        room.issue(0);
        checks.badState("test of a lamp that is out", () -> room.test(0));
        room.back(0);
        room.test(0);
        checks.badState("test of a lamp aside", () -> room.test(0));
        room.mend(0);
        checks.same("placeOf", room.placeOf(0), LampRoom.SCRAPPED);
        checks.badState("test of a scrapped lamp", () -> room.test(0));
    }

    private void mendingEndsLeak() {
        LampRoom room = turned(2, 7);
        Rooms.testAndMend(room, 0);
        double charge = room.chargeOf(0);
        room.issue(0);
        room.hours(1);
        checks.same("chargeOf", room.chargeOf(0), charge - 1.0);
        room.back(0);
        checks.same("test", room.test(0), LampRoom.SOUND);
    }

    private void backToTheRack() {
        LampRoom room = turned(2, 9);
        room.test(0);
        checks.same("mend at 0.760", room.mend(0), true);
        checks.same("placeOf", room.placeOf(0), LampRoom.RACK);
        checks.same("capacityOf", room.capacityOf(0), Rooms.worn(20.0, 9));
        checks.same("turnsOf", room.turnsOf(0), 9);
        checks.same("issue", room.issue(0), 0);
    }

    private void chargeStays() {
        LampRoom room = turned(2, 6);
        Rooms.turnOf(room, 0, 4);
        double charge = room.chargeOf(0);
        room.test(0);
        checks.same("chargeOf, aside", room.chargeOf(0), charge);
        room.hours(5);
        room.mend(0);
        checks.same("chargeOf, mended", room.chargeOf(0), charge);
        room.hours(1);
        checks.same("chargeOf, an hour on the rack", room.chargeOf(0), charge + 2.5);
    }

    private void weakScrapped() {
        LampRoom room = Rooms.mendedAtSeven(2, 10);
        checks.same("test", room.test(0), LampRoom.WEAK);
        checks.same("mend", room.mend(0), false);
        checks.same("placeOf", room.placeOf(0), LampRoom.SCRAPPED);
        checks.badState("issue", () -> room.issue(0));
        checks.same("capacityOf", room.capacityOf(0), Rooms.worn(20.0, 10));
    }

    private void leakingAndWeakScrapped() {
        LampRoom room = turned(1, 10);
        checks.same("test", room.test(0), LampRoom.LEAKING);
        checks.same("mend", room.mend(0), false);
        checks.same("placeOf", room.placeOf(0), LampRoom.SCRAPPED);
        checks.same("chargeOf", room.chargeOf(0), Rooms.worn(16.0, 10));
    }

    private void mendNotAside() {
        LampRoom room = turned(1, 10);
        checks.badState("mend of a leak that nobody saw", () -> room.mend(0));
        room.issue(0);
        checks.badState("mend of a lamp that is out", () -> room.mend(0));
        room.back(0);
        Rooms.testAndMend(room, 0);
        checks.badState("mend of a scrapped lamp", () -> room.mend(0));
        LampRoom mended = turned(1, 7);
        Rooms.testAndMend(mended, 0);
        checks.badState("mend of a mended lamp", () -> mended.mend(0));
    }

    private void noSuchLamp() {
        LampRoom room = Rooms.with(Rooms.kinds(0, 1), 0, 0, 0, 0);
        checks.noSuchNumber("test", 2, room::test);
        checks.noSuchNumber("mend", 2, room::mend);
        checks.noSuchNumber("test of 40", 40, Rooms.full()::test);
        checks.noSuchNumber("mend of 40", 40, Rooms.full()::mend);
    }
}
