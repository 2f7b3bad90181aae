/** Counts and prints the answers that are not the ones due. */
final class Checks {
    private int wrong = 0;

    void same(String call, long got, long due) {
        if (got != due) {
            report(call, String.valueOf(got), String.valueOf(due));
        }
    }

    void same(String call, double got, double due) {
        if (Double.compare(got, due) != 0) {
            report(call, String.valueOf(got), String.valueOf(due));
        }
    }

    void same(String call, boolean got, boolean due) {
        if (got != due) {
            report(call, String.valueOf(got), String.valueOf(due));
        }
    }

    void same(String call, String got, String due) {
        if (!got.equals(due)) {
            report(call, got, due);
        }
    }

    void noSuch(String call, Runnable run) {
        throwsExactly(call, IndexOutOfBoundsException.class, run);
    }

    void badArgument(String call, Runnable run) {
        throwsExactly(call, IllegalArgumentException.class, run);
    }

    void badState(String call, Runnable run) {
        throwsExactly(call, IllegalStateException.class, run);
    }

    private void throwsExactly(String call, Class<?> due, Runnable run) {
        String got = "no exception";
        try {
            run.run();
        } catch (RuntimeException e) {
            got = e.getClass().getName();
        }
        same(call, got, due.getName());
    }

    private void report(String call, String got, String due) {
        wrong++;
        if (wrong <= 50) {
            System.out.println(call + " answered " + got + ", due is " + due);
        }
    }

    /** Prints the outcome; ends the program with 1 if an answer was wrong. */
    void finish() {
        System.out.println(wrong == 0 ? "all answers are as due" : wrong + " answers are not as due");
        if (wrong != 0) {
            System.exit(1);
        }
    }
}
