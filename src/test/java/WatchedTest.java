import java.io.ByteArrayOutputStream;
import java.io.PrintStream;
import java.util.concurrent.atomic.AtomicBoolean;

/** LANGUAGE.md, rule 7: what fails to end, or throws by itself, fails the run. */
public final class WatchedTest {
    private static final long LONG = 60_000;

    private final Checks checks = new Checks();
    private final ByteArrayOutputStream printed = new ByteArrayOutputStream();

    public static void main(String[] args) throws InterruptedException {
        new WatchedTest().run();
    }

    private void run() throws InterruptedException {
        passes();
        failsWhenItThrows();
        failsWhenItHangs();
        checks.finish();
    }

    private int outcome(Watched.Test test, long millis) throws InterruptedException {
        printed.reset();
        return new Watched(new PrintStream(printed, true)).outcome(test, millis);
    }

    private void passes() throws InterruptedException {
        LampRoom room = Rooms.full();
        checks.same("a test that ends", outcome(() -> room.hours(100), LONG), Watched.PASSED);
        checks.same("what it printed", printed.toString(), "");
    }

    private void failsWhenItThrows() throws InterruptedException {
        checks.same("an exception", outcome(() -> new LampRoom().issue(0), LONG), Watched.FAILED);
        checks.same("it is named", printed.toString().contains("IndexOutOfBoundsException"), true);
        checks.same("an endless recursion", outcome(() -> deeper(0), LONG), Watched.FAILED);
        checks.same("it is named", printed.toString().contains("StackOverflowError"), true);
    }

    private void failsWhenItHangs() throws InterruptedException {
        AtomicBoolean stopped = new AtomicBoolean();
        checks.same("an endless loop", outcome(() -> spin(stopped), 300), Watched.HUNG);
        checks.same("its place is named", printed.toString().contains("WatchedTest.spin"), true);
        stopped.set(true);
    }

    private static int deeper(int depth) {
        return 1 + deeper(depth + 1);
    }

    private static void spin(AtomicBoolean stopped) {
        while (!stopped.get()) {
            Thread.onSpinWait();
        }
    }
}
