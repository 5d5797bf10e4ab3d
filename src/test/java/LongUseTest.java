import java.util.List;
import java.util.function.ToIntFunction;

/** "An object is used for at most 512 calls": up to the 512th each call answers as it should. */
public final class LongUseTest {
    private static final Due due = new Due();
    private static final int CALLS = 512;

    public static void main(String[] args) {
        greatestTime();
        makingAtTheEnd();
        releasesUpToTheEnd();
        requestsUpToTheEnd();
        deadlineFarAhead();
        missesUpToTheEnd();
        anyCallAsTheLast();
        due.end();
    }

    private static void greatestTime() {
        StackPolicyKernel x = Kernels.withTasks(100, 100, 1);
        x.start();
        x.step(200);
        x.release(0, 1);
        for (int call = 4; call < CALLS - 4; call++) {
            x.step(200);
        }
        // Calls 509 .. 512, after 505 steps of 200 ticks.
        due.is("idle ticks", x.count(0), 100999);
        due.is("ended", x.count(2), 1);
        due.is("a release much later", x.release(0, 1), 2);
        due.is("its deadline", x.job(0, 1), 101100);
    }

    private static void makingAtTheEnd() {
        StackPolicyKernel x = new StackPolicyKernel();
        for (int call = 0; call < CALLS - 10; call++) {
            due.is("refused", x.task(1, 2, 3), StackPolicyKernel.NONE);
        }
        for (int i = 0; i < 6; i++) {
            due.is("task", x.task(10, 10, 4), i);
        }
        due.yes("section", x.section(5, 3, 0, 4));
        due.yes("server", x.server(1, 2));
        due.yes("start", x.start());
        due.is("release, the last call", x.release(5, 4), 1);
    }

    private static void releasesUpToTheEnd() {
        StackPolicyKernel x = Kernels.withTasks(1, 1, 1);
        x.start();
        for (int n = 1; n <= 255; n++) {
            due.is("job", x.release(0, 1), n);
            due.is("it ends", x.step(1), 1);
        }
    }

    private static void requestsUpToTheEnd() {
        StackPolicyKernel x = new StackPolicyKernel();
        x.server(100, 100);
        x.start();
        for (int n = 1; n <= 170; n++) {
            due.yes("request " + n, x.submit(50));
            due.is("it is finished", x.step(50), 1);
            due.is("so many", x.serverFigure(5), n);
        }
    }

    private static void deadlineFarAhead() {
        // The budget of 1 is used up by each tick: the deadline runs ahead of the time.
        StackPolicyKernel x = new StackPolicyKernel();
        x.server(1, 100);
        x.start();
        for (int n = 1; n <= 253; n++) {
            x.submit(50);
            x.step(50);
        }
        due.is("deadline", x.serverFigure(0), 100 + 253 * 50 * 100);
        due.is("used up", x.serverFigure(4), 253 * 50);
        due.yes("one more", x.submit(1));
        due.is("the deadline is kept", x.serverFigure(0), 100 + 253 * 50 * 100);
    }

    private static void missesUpToTheEnd() {
        // Job 0 ends at its deadline, job 1 one tick after its own, in each round of 3 ticks.
        StackPolicyKernel x = Kernels.withTasks(3, 2, 2, 3, 2, 1);
        x.start();
        for (int n = 1; n <= 126; n++) {
            x.release(0, 2);
            x.release(1, 1);
            due.is("both end", x.step(3), 2);
            due.is("misses", x.misses(1), n);
        }
        due.is("no miss", x.misses(0), 0);
        due.is("changes", x.count(1), 2 * 126 - 1);
        due.is("time", x.time(), 378);
        due.is("ended", x.count(2), 252);
    }

    private static void anyCallAsTheLast() {
        List<ToIntFunction<StackPolicyKernel>> calls = List.of(
            x -> x.task(10, 10, 1), x -> x.section(0, 3, 5, 6) ? 1 : 0, x -> x.server(1, 2) ? 1 : 0,
            x -> x.start() ? 1 : 0, x -> x.verdict(), x -> x.ceiling(0), x -> x.release(1, 1),
            x -> x.submit(7) ? 1 : 0, x -> x.step(30), x -> x.time(), x -> x.ran(8),
            x -> x.queued(3), x -> x.holder(2), x -> x.systemCeiling(), x -> x.job(1, 3),
            x -> x.misses(2), x -> x.worst(2), x -> x.serverFigure(3), x -> x.count(1));
        int callsOfTheScene = 17;
        for (int i = 0; i < calls.size(); i++) {
            StackPolicyKernel late = Scenes.running();
            for (int call = callsOfTheScene; call < CALLS - 1; call++) {
                late.ran(call % 70);
            }
            due.is("call " + i + " as the last", calls.get(i).applyAsInt(late),
                calls.get(i).applyAsInt(Scenes.running()));
        }
    }
}
