import java.util.function.IntConsumer;

/** Counts and prints the answers that are not the ones due. */
final class Checks {
    private static final int MOST_PRINTED = 50;
    private static final int[] WRONG_KINDS = {-1, 3, Integer.MIN_VALUE, Integer.MAX_VALUE};

    private String sentence = "";
    private int wrong = 0;

    /** Runs the test of one sentence of the document; its words stand before all that is printed. */
    void sentence(String words, Runnable test) {
        sentence = "\"" + words + "\": ";
        try {
            test.run();
        } catch (RuntimeException e) {
            report("a call", e.toString(), "no exception");
        }
        sentence = "";
    }

    void same(String call, long got, long due) {
        if (got != due) {
            report(call, String.valueOf(got), String.valueOf(due));
        }
    }

    void same(String call, double got, double due) {
        if (got != due) {
            report(call, String.valueOf(got), String.valueOf(due));
        }
    }

    void same(String call, boolean got, boolean due) {
        if (got != due) {
            report(call, String.valueOf(got), String.valueOf(due));
        }
    }

    void same(String call, String got, String due) {
        if (!got.equals(due)) {
            report(call, got, due);
        }
    }

    void badArgument(String call, Runnable run) {
        refused(call, IllegalArgumentException.class, run);
    }

    void badState(String call, Runnable run) {
        refused(call, IllegalStateException.class, run);
    }

    void refused(String call, Class<?> due, Runnable run) {
        String got = "no exception";
        try {
            run.run();
        } catch (RuntimeException e) {
            got = e.getClass().getName();
        }
        same(call, got, due.getName());
    }

    /** The call refuses every number but 0 to count - 1. */
    void noSuchNumber(String call, int count, IntConsumer run) {
        int[] numbers = {-1, count, count + 1, Integer.MIN_VALUE, Integer.MAX_VALUE};
        for (int number : numbers) {
            refused(call + "(" + number + ")", IndexOutOfBoundsException.class, () -> run.accept(number));
        }
    }

    void noSuchKind(String call, IntConsumer run) {
        for (int kind : WRONG_KINDS) {
            badArgument(call + "(" + kind + ")", () -> run.accept(kind));
        }
    }

    private void report(String call, String got, String due) {
        wrong++;
        if (wrong <= MOST_PRINTED) {
            System.out.println(sentence + call + " answered " + got + ", due is " + due);
        }
    }

    /** Prints the outcome; ends the program with 1 if an answer was wrong. */
    void finish() {
        System.out.println(wrong == 0 ? "all answers are as due" : wrong + " answers are not as due");
        if (wrong != 0) {
            System.exit(1);
        }
    }
}
