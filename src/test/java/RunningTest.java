/** Promises 8 to 10: jobs and requests come, and ticks are made by the document's rules. */
public final class RunningTest {
    private static final Due due = new Due();
    private static final int NONE = StackPolicyKernel.NONE;
    private static final int OFF = StackPolicyKernel.OFF;
    private static final int BAD = StackPolicyKernel.BAD;
    private static final int BUSY = StackPolicyKernel.BUSY;
    private static final int EARLY = StackPolicyKernel.EARLY;

    public static void main(String[] args) {
        releaseRefusals();
        releaseByPeriod();
        releaseAfterALateEnd();
        submitRefusals();
        submitLimit();
        submitSetsTheDeadline();
        submitKeepsTheDeadline();
        requestsInOrder();
        budgetUsedUp();
        stepEdges();
        stepCountsFinished();
        earliestDeadlineFirst();
        equalDeadlines();
        levelAgainstCeiling();
        begunJobGoesOn();
        holderOfTheSystemCeilingRuns();
        serverNeedsNoLevel();
        due.end();
    }

    private static StackPolicyKernel startedServer(int size, int period) {
        StackPolicyKernel x = new StackPolicyKernel();
        x.server(size, period);
        x.start();
        return x;
    }

    /** The codes of the latest n ticks, the oldest first, as digits of one number. */
    private static int lastCodes(StackPolicyKernel x, int n) {
        int codes = 0;
        for (int k = n - 1; k >= 0; k--) {
            codes = codes * 10 + x.ran(k);
        }
        return codes;
    }

    private static void releaseRefusals() {
        StackPolicyKernel x = Kernels.withTasks(10, 8, 4, 20, 20, 5);
        due.is("p8 off", x.release(0, 1), OFF);
        due.is("p8 off before bad", x.release(7, 0), OFF);
        x.start();
        due.is("p8 no task -1", x.release(-1, 1), BAD);
        due.is("p8 no task 2", x.release(2, 1), BAD);
        due.is("p8 no task 6", x.release(6, 1), BAD);
        due.is("p8 far tasks", x.release(Integer.MIN_VALUE, 1), BAD);
        due.is("p8 far tasks", x.release(Integer.MAX_VALUE, 1), BAD);
        due.is("p8 amount 0", x.release(0, 0), BAD);
        due.is("p8 amount -1", x.release(0, -1), BAD);
        due.is("p8 amount above the cost", x.release(0, 5), BAD);
        due.is("p8 far amount", x.release(0, Integer.MAX_VALUE), BAD);
        due.is("p8 refused changes nothing", x.job(0, 0), NONE);
        due.is("p8 first", x.release(0, 4), 1);
        due.is("p8 bad before busy", x.release(0, 5), BAD);
        due.is("p8 busy", x.release(0, 1), BUSY);
        due.is("p8 busy changes nothing", x.job(0, 0), 4);
        due.is("p8 second", x.release(1, 1), 2);
        x.step(5);
        due.is("p8 bad before early", x.release(0, 0), BAD);
        due.is("p8 early", x.release(0, 1), EARLY);
        due.is("p8 early changes nothing", x.job(0, 1), 8);
        x.step(5);
        due.is("p8 third", x.release(0, 1), 3);
        due.is("p8 its deadline", x.job(0, 1), 18);
    }

    private static void releaseByPeriod() {
        StackPolicyKernel x = Kernels.withTasks(5, 5, 2);
        x.start();
        x.step(3);
        due.is("p8 the first at any time", x.release(0, 2), 1);
        x.step(4);
        due.is("p8 a tick too early", x.release(0, 1), EARLY);
        x.step(1);
        due.is("p8 just a period later", x.release(0, 1), 2);
        due.is("p8 deadline", x.job(0, 1), 13);
        x.step(1);
        due.is("p8 from the last release on", x.release(0, 1), EARLY);
    }

    private static void releaseAfterALateEnd() {
        StackPolicyKernel x = Kernels.withTasks(4, 4, 2, 3, 3, 3);
        x.start();
        x.release(0, 2);
        x.release(1, 3);
        x.step(4);
        due.is("p8 late and pending", x.release(0, 1), BUSY);
        x.step(1);
        due.is("p8 a period after the release, not the end", x.release(0, 1), 3);
    }

    private static void submitRefusals() {
        StackPolicyKernel x = new StackPolicyKernel();
        x.server(2, 5);
        due.no("p9 not started", x.submit(1));
        due.is("p9 none waits", x.serverFigure(2), 0);
        x.start();
        due.no("p9 amount 0", x.submit(0));
        due.no("p9 amount -1", x.submit(-1));
        due.no("p9 amount 51", x.submit(51));
        due.no("p9 far amount", x.submit(Integer.MAX_VALUE));
        due.no("p9 far amount", x.submit(Integer.MIN_VALUE));
        due.is("p9 refused changes nothing", x.serverFigure(0), 0);
        due.yes("p9 amount 1", x.submit(1));
        due.yes("p9 amount 50", x.submit(50));
        due.is("p9 two wait", x.serverFigure(2), 2);
        due.is("p9 both needs", x.serverFigure(3), 51);
        StackPolicyKernel y = new StackPolicyKernel();
        y.start();
        due.no("p9 no server", y.submit(1));
    }

    private static void submitLimit() {
        StackPolicyKernel x = startedServer(1, 2);
        for (int i = 0; i < 8; i++) {
            due.yes("p9 request " + i, x.submit(2));
        }
        due.no("p9 ninth", x.submit(2));
        due.is("p9 eight wait", x.serverFigure(2), 8);
        x.step(1);
        due.no("p9 the one being served counts", x.submit(2));
        x.step(1);
        due.yes("p9 again seven", x.submit(3));
        due.is("p9 needs", x.serverFigure(3), 17);
        due.is("p9 all are served", x.step(17), 8);
        due.is("p9 none waits", x.serverFigure(2), 0);
    }

    private static void submitSetsTheDeadline() {
        StackPolicyKernel x = startedServer(2, 4);
        x.step(3);
        x.submit(1);
        due.is("p9 time + period", x.serverFigure(0), 7);
        x.step(1);
        due.is("p9 budget", x.serverFigure(1), 1);
        x.step(1);
        // Time 5: 1 * 4 >= (7 - 5) * 2, just so.
        x.submit(1);
        due.is("p9 at equality", x.serverFigure(0), 9);
        due.is("p9 the budget is full", x.serverFigure(1), 2);
        x.step(20);
        x.submit(1);
        due.is("p9 a deadline that is past", x.serverFigure(0), 29);
    }

    private static void submitKeepsTheDeadline() {
        StackPolicyKernel x = startedServer(2, 5);
        x.submit(1);
        x.step(2);
        // Time 2: 1 * 5 < (5 - 2) * 2.
        x.submit(2);
        due.is("p9 deadline kept", x.serverFigure(0), 5);
        due.is("p9 budget kept", x.serverFigure(1), 1);
        StackPolicyKernel y = startedServer(5, 10);
        y.submit(9);
        y.step(4);
        y.submit(1);
        due.is("p9 another waits: deadline", y.serverFigure(0), 10);
        due.is("p9 another waits: budget", y.serverFigure(1), 1);
        StackPolicyKernel z = Kernels.withTasks(100, 10, 10);
        z.server(1, 20);
        z.start();
        z.release(0, 10);
        z.submit(2);
        z.step(9);
        z.submit(3);
        due.is("p9 waiting keeps the deadline", z.serverFigure(0), 20);
    }

    private static void requestsInOrder() {
        StackPolicyKernel x = startedServer(10, 10);
        x.submit(3);
        x.submit(1);
        x.submit(2);
        due.is("p9 the oldest is served", x.step(2), 0);
        due.is("p9 needs", x.serverFigure(3), 4);
        due.is("p9 first finished", x.step(1), 1);
        due.is("p9 second finished", x.step(1), 1);
        due.is("p9 third not yet", x.step(1), 0);
        due.is("p9 third finished", x.step(1), 1);
        due.is("p9 finished", x.serverFigure(5), 3);
    }

    private static void budgetUsedUp() {
        StackPolicyKernel x = startedServer(2, 5);
        x.submit(2);
        x.step(1);
        due.is("p10 not used up", x.serverFigure(4), 0);
        due.is("p10 finished", x.step(1), 1);
        due.is("p10 used up with the last request", x.serverFigure(4), 1);
        due.is("p10 deadline moves", x.serverFigure(0), 10);
        due.is("p10 budget again", x.serverFigure(1), 2);
        due.is("p10 none waits", x.serverFigure(2), 0);
        x.step(3);
        due.is("p10 idle ticks do not use it", x.serverFigure(1), 2);
    }

    private static void stepEdges() {
        StackPolicyKernel x = Kernels.withTasks(100, 100, 100);
        due.is("p10 not started", x.step(1), NONE);
        due.is("p10 no tick before start", x.time(), 0);
        x.start();
        due.is("p10 step 0", x.step(0), 0);
        due.is("p10 no tick", x.time(), 0);
        due.is("p10 -1", x.step(-1), NONE);
        due.is("p10 201", x.step(201), NONE);
        due.is("p10 far", x.step(Integer.MAX_VALUE), NONE);
        due.is("p10 far", x.step(Integer.MIN_VALUE), NONE);
        due.is("p10 refused", x.time(), 0);
        due.is("p10 200", x.step(200), 0);
        due.is("p10 200 ticks", x.time(), 200);
    }

    private static void stepCountsFinished() {
        StackPolicyKernel x = Kernels.withTasks(10, 10, 2, 20, 20, 3);
        x.server(2, 30);
        x.start();
        x.release(0, 2);
        x.release(1, 3);
        x.submit(1);
        x.submit(1);
        due.is("p10 jobs and requests", x.step(7), 4);
        due.is("p10 each once", x.step(7), 0);
        x.release(0, 2);
        due.is("p10 not finished", x.step(1), 0);
        due.is("p10 finished", x.step(1), 1);
    }

    private static void earliestDeadlineFirst() {
        StackPolicyKernel x = Kernels.withTasks(30, 30, 4, 10, 10, 2, 20, 20, 3);
        x.server(1, 15);
        x.start();
        x.release(0, 4);
        x.step(1);
        x.release(2, 3);
        x.step(1);
        x.release(1, 2);
        x.submit(1);
        x.step(8);
        due.is("p10 by deadline", lastCodes(x, 8), 33144222);
        due.is("p10 the beginning", x.ran(9) * 10 + x.ran(8), 24);
        x.step(1);
        due.is("p10 then idle", x.ran(0), 0);
    }

    private static void equalDeadlines() {
        StackPolicyKernel x = Kernels.withTasks(10, 10, 1, 10, 8, 1, 10, 10, 1);
        x.server(1, 8);
        x.start();
        x.submit(1);
        x.release(2, 1);
        x.release(0, 1);
        x.release(1, 1);
        x.step(4);
        due.is("p10 jobs before the server, lower tasks first", lastCodes(x, 4), 3124);
    }

    private static void levelAgainstCeiling() {
        // Task 0 holds resource 0, whose ceiling is the level of task 1.
        StackPolicyKernel x = Kernels.withTasks(50, 50, 9, 20, 20, 2, 19, 10, 2, 30, 21, 2);
        x.section(0, 0, 0, 5);
        x.section(1, 0, 0, 1);
        x.start();
        x.release(0, 9);
        x.step(1);
        x.release(3, 2);
        x.step(1);
        due.is("p10 a level below the ceiling waits", x.ran(0), 2);
        x.release(1, 2);
        x.step(1);
        due.is("p10 a level at the ceiling waits", x.ran(0), 2);
        x.release(2, 2);
        x.step(2);
        due.is("p10 a level above the ceiling runs", lastCodes(x, 2), 44);
        x.step(1);
        due.is("p10 the holder goes on", x.ran(0), 2);
        x.step(2);
        due.is("p10 until it holds nothing", lastCodes(x, 2), 23);
    }

    private static void begunJobGoesOn() {
        StackPolicyKernel x = Kernels.withTasks(20, 20, 6);
        x.section(0, 0, 0, 6);
        x.start();
        x.release(0, 6);
        due.is("p10 its own ceiling does not stop it", x.step(6), 1);
        due.is("p10 it ran each tick", lastCodes(x, 6), 222222);
        // Task 1 has begun and holds nothing, while task 0 holds what bars its level.
        StackPolicyKernel y = Kernels.withTasks(100, 90, 9, 40, 40, 4, 10, 10, 2);
        y.section(0, 0, 0, 8);
        y.section(1, 1, 2, 3);
        y.start();
        y.release(0, 9);
        y.step(2);
        y.release(1, 4);
        y.step(1);
        y.release(2, 2);
        y.step(6);
        due.is("p10 begun jobs by deadline", lastCodes(y, 6), 443332);
    }

    private static void holderOfTheSystemCeilingRuns() {
        // Task 0 holds a low ceiling, task 1 on top of it a high one.
        StackPolicyKernel x = Kernels.withTasks(100, 90, 9, 60, 50, 9, 30, 20, 2);
        x.section(0, 0, 0, 8);
        x.section(1, 1, 0, 6);
        x.section(1, 2, 1, 4);
        x.section(2, 1, 0, 1);
        x.start();
        x.release(0, 9);
        x.step(1);
        x.release(1, 9);
        x.step(2);
        due.is("p10 system ceiling", x.systemCeiling(), 81);
        x.release(2, 2);
        x.step(4);
        due.is("p10 the holder of the system ceiling", lastCodes(x, 4), 3333);
        x.step(2);
        due.is("p10 then the first", lastCodes(x, 2), 44);
        // A lower task number holds the high ceiling, a higher one the low ceiling.
        StackPolicyKernel y = Kernels.withTasks(60, 50, 9, 100, 90, 9, 30, 20, 2);
        y.section(1, 0, 0, 8);
        y.section(0, 1, 0, 6);
        y.section(2, 1, 0, 1);
        y.start();
        y.release(1, 9);
        y.step(1);
        y.release(0, 9);
        y.step(1);
        y.release(2, 2);
        y.step(6);
        due.is("p10 the same with other numbers", lastCodes(y, 6), 222224);
    }

    private static void serverNeedsNoLevel() {
        StackPolicyKernel x = Kernels.withTasks(50, 50, 9, 1, 1, 1);
        x.section(0, 0, 0, 9);
        x.section(1, 0, 0, 1);
        x.server(3, 100);
        x.start();
        x.submit(4);
        x.release(0, 9);
        x.step(2);
        due.is("p10 the ceiling", x.systemCeiling(), 100);
        due.is("p10 the server is later", lastCodes(x, 2), 22);
        StackPolicyKernel y = Kernels.withTasks(50, 50, 9, 1, 1, 1);
        y.section(0, 0, 0, 9);
        y.section(1, 0, 0, 1);
        y.server(3, 10);
        y.start();
        y.release(0, 9);
        y.step(2);
        y.submit(1);
        y.step(2);
        due.is("p10 the server runs below any ceiling", lastCodes(y, 2), 12);
    }
}
