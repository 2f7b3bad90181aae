/** All promises: long runs of calls, made by a fixed rule, each answer compared with the model's. */
public final class ModelRunsTest {
    private static final int RUNS = 3000;
    private static final int CALLS = 512;

    // Full rooms, middling ones, and small busy ones whose few lamps are soon worn.
    private static final int[] MOST_LAMPS = {42, 8, 3};
    private static final int[] MOST_MINERS = {32, 6, 2};
    private static final int[] READING_EVERY = {2, 2, 6};

    private static final int[] ODD = {-1, 3, 30, 40, 60, 100, 101, Integer.MIN_VALUE, Integer.MAX_VALUE};

    private final Checks checks = new Checks();
    private final int[] answered = new int[22];
    private final int[] refused = new int[22];
    private long seed;
    private int lampsWanted;
    private int minersWanted;
    private int readingEvery;
    private int longest;

    public static void main(String[] args) {
        ModelRunsTest test = new ModelRunsTest();
        for (int run = 0; run < RUNS; run++) {
            test.run(run);
        }
        test.everyCallWasMade();
        test.checks.finish();
    }

    private void run(int run) {
        seed = run * 7919L + 1;
        lampsWanted = 1 + pick(MOST_LAMPS[run % 3]);
        minersWanted = 1 + pick(MOST_MINERS[run % 3]);
        readingEvery = READING_EVERY[run % 3];
        longest = run % 2 == 0 ? 3 : 12;
        LampRoom room = new LampRoom();
        Model model = new Model();
        int setUp = lampsWanted + minersWanted;
        for (int call = 0; call < CALLS; call++) {
            int promise = call < lampsWanted ? 2 : call < setUp ? 3 : pickPromise();
            int argument = call < setUp ? pick(3) : pickArgument(promise, model);
            String due = model.answer(promise, argument);
            count(promise, due);
            checks.same("run " + run + ", call " + call + ", promise " + promise + "(" + argument + ")",
                    answer(room, promise, argument), due);
        }
    }

    private void count(int promise, String due) {
        if (due.endsWith("Exception")) {
            refused[promise]++;
        } else {
            answered[promise]++;
        }
    }

    // A run that no longer reaches a call would compare nothing, and pass.
    private void everyCallWasMade() {
        for (int promise = 2; promise <= 21; promise++) {
            checks.same("promise " + promise + " was answered", answered[promise] > 1000, true);
            boolean mayRefuse = promise != 9 && promise != 10 && promise != 18 && promise != 19 && promise != 21;
            checks.same("promise " + promise + " was refused", refused[promise] > 100, mayRefuse);
        }
    }

    private int pick(int bound) {
        seed = seed * 6364136223846793005L + 1442695040888963407L;
        return (int) Math.floorMod(seed >>> 33, (long) bound);
    }

    /** Half of the calls or more are the keeper's, so that the rooms do not stand still. */
    private int pickPromise() {
        int[] keeper = {4, 4, 4, 4, 5, 5, 5, 5, 6, 6, 7, 7, 8, 8, 8};
        if (pick(100) == 0) {
            return 2 + pick(2);
        }
        return pick(readingEvery) == 0 ? 9 + pick(13) : keeper[pick(keeper.length)];
    }

    private int pickArgument(int promise, Model model) {
        if (pick(25) == 0) {
            return ODD[pick(ODD.length)];
        }
        switch (promise) {
            case 2: case 3: case 17: return pick(3);
            case 4: case 5: case 10: case 11: case 12: case 20: return pick(minersWanted);
            case 7: return lampToMend(model);
            case 8: return pick(20) == 0 ? 1 + pick(100) : 1 + pick(longest);
            case 19: return pick(2 * minersWanted);
            default: return pick(lampsWanted);
        }
    }

    // A lamp set aside is rare, and would seldom be met by chance.
    private int lampToMend(Model model) {
        for (int lamp = 0; lamp < lampsWanted && pick(3) != 0; lamp++) {
            if (model.answer(13, lamp).equals("" + LampRoom.ASIDE)) {
                return lamp;
            }
        }
        return pick(lampsWanted);
    }

    private static String answer(LampRoom room, int promise, int argument) {
        try {
            return reached(room, promise, argument);
        } catch (RuntimeException e) {
            return e.getClass().getSimpleName();
        }
    }

    private static String reached(LampRoom room, int promise, int argument) {
        switch (promise) {
            case 2: return "" + room.addLamp(argument);
            case 3: return "" + room.addMiner(argument);
            case 4: return "" + room.issue(argument);
            case 5: return "" + room.back(argument);
            case 6: return "" + room.test(argument);
            case 7: return "" + room.mend(argument);
            case 8: return "" + room.hours(argument);
            case 9: return "" + room.below();
            case 10: return "" + room.board(argument);
            case 11: return "" + room.lampOf(argument);
            case 12: return "" + room.hoursBelow(argument);
            case 13: return "" + room.placeOf(argument);
            case 14: return "" + room.chargeOf(argument);
            case 15: return "" + room.capacityOf(argument);
            case 16: return "" + room.turnsOf(argument);
            case 17: return "" + room.ready(argument);
            case 18: return "" + room.spares();
            case 19: return "" + room.alarm(argument);
            case 20: return "" + room.lightLeft(argument);
            default: return "" + room.rackCharge();
        }
    }
}
