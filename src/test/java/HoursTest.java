/** Promise 8: in an hour lamps lose and gain charge, and alarms begin. */
public final class HoursTest {
    private final Checks checks = new Checks();

    public static void main(String[] args) {
        new HoursTest().run();
    }

    private void run() {
        checks.sentence("a lamp that is out loses 1.0 of its charge", this::loss);
        checks.sentence("but no more than it has", this::noMoreThanItHas);
        checks.sentence("gain 2.5 each, up to their capacity", this::gain);
        checks.sentence("up to their capacity", this::upToCapacity);
        checks.sentence("the first 5", this::firstFive);
        checks.sentence("by rising numbers", this::byRisingNumbers);
        checks.sentence("that are not full", this::fullOnesDoNotCount);
        checks.sentence("the first 5, up to their capacity", this::littleGainCounts);
        checks.sentence("of the lamps on the rack: not out", this::outDoNotCount);
        checks.sentence("of the lamps on the rack: not set aside", this::asideDoNotCount);
        checks.sentence("of the lamps on the rack: not scrapped", this::scrappedDoNotCount);
        checks.sentence("A miner who has been below for more than 9 hours is late", this::late);
        checks.sentence("has been below for more than 9 hours", this::lateByOwnHours);
        checks.sentence("and stays late until the tally comes off the board", this::staysLate);
        checks.sentence("A miner whose lamp has a charge of 0.0 is in the dark", this::dark);
        checks.sentence("a charge of 0.0", this::notDarkWithLittle);
        checks.sentence("whose lamp has a charge of 0.0", this::darkAheadOfLate);
        checks.sentence("also until the tally comes off the board", this::staysDark);
        checks.sentence("first the lamps that are out lose charge, ..., then alarms begin", this::inTheSameHour);
        checks.sentence("Returns how many alarms begin in them.", this::alarmsCounted);
        checks.sentence("Lets hours go by.", this::hourByHour);
        checks.sentence("1 to 100", this::leastAndMost);
        checks.sentence("if hours is out of range", this::outOfRange);
        checks.finish();
    }

    private void loss() {
        LampRoom room = Rooms.with(Rooms.kinds(2, 0), 2, 0);
        Rooms.issueAll(room, 0, 1);
        for (int hour = 1; hour <= 11; hour++) {
            room.hours(1);
            checks.same("chargeOf class 2", room.chargeOf(0), 20.0 - hour);
            checks.same("chargeOf class 0", room.chargeOf(1), 12.0 - hour);
        }
    }

    private void noMoreThanItHas() {
        LampRoom room = Rooms.pair(0);
        room.issue(0);
        room.hours(12);
        checks.same("chargeOf, 1.0 before", room.chargeOf(0), 0.0);
        room.hours(1);
        checks.same("chargeOf, 0.0 before", room.chargeOf(0), 0.0);
        LampRoom worn = Rooms.pair(0);
        Rooms.turns(worn, 0, 1);
        worn.issue(0);
        worn.hours(11);
        checks.same("0.64 is left", worn.chargeOf(0) > 0.6 && worn.chargeOf(0) < 0.7, true);
        worn.hours(1);
        checks.same("chargeOf, 0.64 before", worn.chargeOf(0), 0.0);
        worn.hours(100);
        checks.same("chargeOf, 100 hours later", worn.chargeOf(0), 0.0);
    }

    private void gain() {
        LampRoom room = Rooms.pair(2);
        Rooms.turnOf(room, 0, 20);
        for (int hour = 1; hour <= 7; hour++) {
            room.hours(1);
            checks.same("chargeOf in hour " + hour, room.chargeOf(0), 2.5 * hour);
        }
        room.hours(1);
        checks.same("chargeOf in hour 8", room.chargeOf(0), 20.0 * 0.97);
    }

    private void upToCapacity() {
        LampRoom room = Rooms.pair(0);
        Rooms.turnOf(room, 0, 2);
        checks.same("chargeOf", room.chargeOf(0), 10.0);
        room.hours(1);
        checks.same("chargeOf, 1.64 missing before", room.chargeOf(0), 12.0 * 0.97);
        room.hours(50);
        checks.same("chargeOf, full before", room.chargeOf(0), 12.0 * 0.97);
    }

    /** A room with so many pairs of class 2; the lamps come back with 10.0 of 19.4, the last one first. */
    private static LampRoom allLow(int count) {
        LampRoom room = Rooms.pairs(count);
        for (int miner = 0; miner < count; miner++) {
            room.issue(miner);
        }
        room.hours(10);
        for (int miner = count - 1; miner >= 0; miner--) {
            room.back(miner);
        }
        return room;
    }

    private void firstFive() {
        LampRoom room = allLow(7);
        room.hours(3);
        for (int lamp = 0; lamp < 7; lamp++) {
            checks.same("chargeOf lamp " + lamp, room.chargeOf(lamp), lamp < 5 ? 17.5 : 10.0);
        }
    }

    private void byRisingNumbers() {
        LampRoom room = allLow(12);
        room.hours(4);
        checks.same("the fifth is full", room.chargeOf(4), 20.0 * 0.97);
        checks.same("the sixth has waited", room.chargeOf(5), 10.0);
        room.hours(1);
        for (int lamp = 5; lamp < 12; lamp++) {
            checks.same("chargeOf lamp " + lamp, room.chargeOf(lamp), lamp < 10 ? 12.5 : 10.0);
        }
    }

    private void fullOnesDoNotCount() {
        LampRoom room = Rooms.with(Rooms.kinds(0, 0, 0, 0, 0, 0, 1, 2), 1, 2);
        Rooms.issueAll(room, 0, 1);
        room.hours(5);
        room.back(0);
        room.back(1);
        room.hours(1);
        checks.same("chargeOf behind six full ones", room.chargeOf(6), 13.5);
        checks.same("chargeOf behind it", room.chargeOf(7), 17.5);
        checks.same("chargeOf a full one", room.chargeOf(0), 12.0);
    }

    private void littleGainCounts() {
        LampRoom room = Rooms.pairs(6);
        Rooms.issueAll(room, 0, 1, 2, 3, 4, 5);
        room.hours(1);
        for (int miner = 0; miner < 6; miner++) {
            room.back(miner);
        }
        room.hours(1);
        checks.same("the fifth, 0.4 missing before", room.chargeOf(4), 20.0 * 0.97);
        checks.same("the sixth waits for five that gain 0.4", room.chargeOf(5), 19.0);
        room.hours(1);
        checks.same("the sixth an hour later", room.chargeOf(5), 20.0 * 0.97);
    }

    private void outDoNotCount() {
        LampRoom room = Rooms.pairs(6);
        Rooms.issueAll(room, 0, 1, 2, 3, 4, 5);
        room.hours(10);
        room.back(5);
        room.hours(1);
        checks.same("chargeOf behind five that are out", room.chargeOf(5), 12.5);
        checks.same("chargeOf one that is out", room.chargeOf(0), 9.0);
    }

    /** A room with six pairs of class 2; the first five lamps have gone through so many turns, and all are low. */
    private static LampRoom fiveWorn(int turns) {
        LampRoom room = Rooms.pairs(5);
        for (int turn = 1; turn < turns; turn++) {
            for (int miner = 0; miner < 5; miner++) {
                room.issue(miner);
            }
            for (int miner = 0; miner < 5; miner++) {
                room.back(miner);
            }
        }
        Rooms.issueAll(room, 0, 1, 2, 3, 4);
        room.addLamp(2);
        room.addMiner(2);
        room.issue(5);
        room.hours(5);
        for (int miner = 0; miner < 6; miner++) {
            room.back(miner);
        }
        for (int lamp = 0; lamp < 5; lamp++) {
            room.test(lamp);
        }
        return room;
    }

    private void asideDoNotCount() {
        LampRoom room = fiveWorn(7);
        double charge = room.chargeOf(0);
        checks.same("placeOf the fifth", room.placeOf(4), LampRoom.ASIDE);
        room.hours(1);
        checks.same("chargeOf behind five aside", room.chargeOf(5), 17.5);
        checks.same("chargeOf one aside", room.chargeOf(0), charge);
        for (int lamp = 0; lamp < 5; lamp++) {
            room.mend(lamp);
        }
        room.hours(1);
        checks.same("chargeOf behind five mended", room.chargeOf(5), 17.5);
        checks.same("chargeOf one mended", room.chargeOf(0), charge + 2.5);
    }

    private void scrappedDoNotCount() {
        LampRoom room = fiveWorn(10);
        double charge = room.chargeOf(0);
        for (int lamp = 0; lamp < 5; lamp++) {
            room.mend(lamp);
        }
        checks.same("placeOf the fifth", room.placeOf(4), LampRoom.SCRAPPED);
        room.hours(1);
        checks.same("chargeOf behind five scrapped", room.chargeOf(5), 17.5);
        checks.same("chargeOf one scrapped", room.chargeOf(0), charge);
    }

    private void late() {
        LampRoom room = Rooms.pair(2);
        room.issue(0);
        checks.same("hours(9)", room.hours(9), 0);
        checks.same("alarms at 9 hours", Answers.alarms(room), "");
        checks.same("the tenth hour", room.hours(1), 1);
        checks.same("alarms at 10 hours", Answers.alarms(room), "0");
    }

    private void lateByOwnHours() {
        LampRoom room = Rooms.with(Rooms.kinds(2, 2, 2), 2, 2);
        room.hours(50);
        room.issue(0);
        room.hours(4);
        room.issue(1);
        checks.same("5 hours later", room.hours(5), 0);
        checks.same("6 hours later", room.hours(1), 1);
        checks.same("9 hours later", room.hours(3), 0);
        checks.same("10 hours later", room.hours(1), 1);
        room.back(0);
        room.issue(0);
        checks.same("below anew", room.hours(5), 0);
    }

    private void staysLate() {
        LampRoom room = Rooms.pair(2);
        room.issue(0);
        room.hours(10);
        checks.same("it does not begin again", room.hours(9), 0);
        room.hours(100);
        checks.same("alarms at 119 hours", Answers.alarms(room), "0 1");
        room.back(0);
        checks.same("alarms behind back", Answers.alarms(room), "");
        room.hours(20);
        room.issue(0);
        checks.same("it begins anew", room.hours(10), 1);
        checks.same("alarms of the next time", Answers.alarms(room), "0");
    }

    private void dark() {
        LampRoom room = Rooms.pair(0);
        room.issue(0);
        room.hours(11);
        checks.same("chargeOf", room.chargeOf(0), 1.0);
        checks.same("alarms at 1.0", Answers.alarms(room), "0");
        checks.same("the next hour", room.hours(1), 1);
        checks.same("chargeOf", room.chargeOf(0), 0.0);
        checks.same("alarms at 0.0", Answers.alarms(room), "0 1");
    }

    // 0.02 is the least charge above 0.0 that a lamp can come to.
    private void notDarkWithLittle() {
        LampRoom room = Rooms.pair(1);
        Rooms.turns(room, 0, 1);
        Rooms.turnOf(room, 0, 3);
        room.hours(1);
        checks.same("chargeOf, from 12.52", room.chargeOf(0), 16.0 * 0.97 - 3.0 + 2.5);
        room.issue(0);
        room.hours(15);
        checks.same("0.02 is left", room.chargeOf(0) > 0.01 && room.chargeOf(0) < 0.03, true);
        checks.same("alarms at 0.02", Answers.alarms(room), "0");
        checks.same("the next hour", room.hours(1), 1);
        checks.same("alarms at 0.0", Answers.alarms(room), "0 1");
    }

    private void darkAheadOfLate() {
        LampRoom room = Rooms.pair(0);
        Rooms.turns(room, 0, 7);
        room.issue(0);
        checks.same("6 hours of a leak", room.hours(6), 0);
        checks.same("the seventh", room.hours(1), 1);
        checks.same("alarms at 7 hours", Answers.alarms(room), "1");
        checks.same("10 hours", room.hours(3), 1);
        checks.same("alarms at 10 hours", Answers.alarms(room), "1 0");
    }

    private void staysDark() {
        LampRoom room = Rooms.with(Rooms.kinds(0, 0), 0);
        room.issue(0);
        room.hours(12);
        checks.same("it does not begin again", room.hours(100), 0);
        checks.same("alarms at 112 hours", Answers.alarms(room), "0 1");
        room.back(0);
        checks.same("alarms behind back", Answers.alarms(room), "");
        room.issue(0);
        checks.same("with another lamp", room.hours(11), 1);
        checks.same("it begins anew", room.hours(1), 1);
        checks.same("alarms of the next time", Answers.alarms(room), "0 1");
    }

    private void inTheSameHour() {
        LampRoom room = Rooms.with(Rooms.kinds(0, 0), 0, 0);
        room.issue(0);
        room.hours(2);
        room.issue(1);
        room.hours(9);
        checks.same("out, back and dark with one hour", room.hours(1), 2);
        checks.same("chargeOf lamp 0", room.chargeOf(0), 0.0);
        room.back(0);
        room.hours(1);
        checks.same("gain", room.chargeOf(0), 2.5);
        checks.same("loss", room.chargeOf(1), 1.0);
    }

    private void alarmsCounted() {
        LampRoom room = Rooms.with(Rooms.kinds(0, 1, 2), 0, 1, 2, 0);
        checks.same("with none below", room.hours(100), 0);
        Rooms.issueAll(room, 0, 1, 2);
        checks.same("three late, two dark", room.hours(19), 5);
        checks.same("one dark", room.hours(1), 1);
        checks.same("all begun", room.hours(100), 0);
        room.back(1);
        room.hours(20);
        room.issue(1);
        checks.same("two anew", room.hours(100), 2);
    }

    private void hourByHour() {
        LampRoom atOnce = allLow(7);
        LampRoom hourly = allLow(7);
        Rooms.issueAll(atOnce, 6, 2);
        Rooms.issueAll(hourly, 6, 2);
        int begun = 0;
        for (int i = 0; i < 13; i++) {
            begun += hourly.hours(1);
        }
        checks.same("hours(13)", atOnce.hours(13), begun);
        checks.same("readings", Answers.readings(atOnce, 7, 7), Answers.readings(hourly, 7, 7));
    }

    private void leastAndMost() {
        LampRoom room = Rooms.pair(2);
        room.issue(0);
        room.hours(1);
        checks.same("hoursBelow after 1", room.hoursBelow(0), 1);
        room.hours(100);
        checks.same("hoursBelow after 100 more", room.hoursBelow(0), 101);
    }

    private void outOfRange() {
        LampRoom room = Rooms.pair(2);
        room.issue(0);
        int[] wrong = {0, -1, 101, Integer.MIN_VALUE, Integer.MAX_VALUE};
        for (int hours : wrong) {
            checks.badArgument("hours(" + hours + ")", () -> room.hours(hours));
        }
        checks.same("hoursBelow", room.hoursBelow(0), 0);
        checks.same("chargeOf", room.chargeOf(0), 20.0);
    }
}
