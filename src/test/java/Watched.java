import java.io.PrintStream;
import java.lang.reflect.InvocationTargetException;
import java.lang.reflect.Method;

/** Runs the main method of a test for so long at most: a call that does not end fails the test too. */
final class Watched {
    static final int PASSED = 0;
    static final int FAILED = 1;
    static final int HUNG = 3;

    interface Test {
        void run() throws Throwable;
    }

    private final PrintStream out;
    // Written by the test's thread, and read when that has ended.
    private Throwable thrown;

    Watched(PrintStream out) {
        this.out = out;
    }

    /** Arguments: the seconds that the test may take, and its class. */
    public static void main(String[] args) throws ReflectiveOperationException, InterruptedException {
        long millis = 1000 * Long.parseLong(args[0]);
        Method test = Class.forName(args[1]).getMethod("main", String[].class);
        System.exit(new Watched(System.out).outcome(() -> invoke(test), millis));
    }

    private static void invoke(Method test) throws Throwable {
        try {
            test.invoke(null, (Object) new String[0]);
        } catch (InvocationTargetException e) {
            throw e.getCause();
        }
    }

    int outcome(Test test, long millis) throws InterruptedException {
        Thread thread = new Thread(() -> runToItsEnd(test));
        // A thread that never ends must not keep the program from ending.
        thread.setDaemon(true);
        thread.start();
        thread.join(millis);
        if (thread.isAlive()) {
            out.println("has not ended after " + millis + " ms, and stands here:");
            for (StackTraceElement place : thread.getStackTrace()) {
                out.println("    at " + place);
            }
            return HUNG;
        }
        if (thrown != null) {
            thrown.printStackTrace(out);
            return FAILED;
        }
        return PASSED;
    }

    private void runToItsEnd(Test test) {
        try {
            test.run();
        } catch (Throwable e) {
            thrown = e;
        }
    }
}
