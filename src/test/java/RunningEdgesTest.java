import java.util.function.Supplier;

/** Promises 8 to 10 at their boundaries: release, submit and step. */
public final class RunningEdgesTest {
    private static final Due due = new Due();
    private static final int NONE = StackPolicyKernel.NONE;
    private static final int OFF = StackPolicyKernel.OFF;
    private static final int BAD = StackPolicyKernel.BAD;
    private static final int BUSY = StackPolicyKernel.BUSY;
    private static final int EARLY = StackPolicyKernel.EARLY;

    public static void main(String[] args) {
        releaseOffBeforeStart();
        releaseOfNoTask();
        releaseAmounts();
        releaseBusyUntilTheEnd();
        releaseBusyPastThePeriod();
        releaseEarlyByOneTick();
        releaseOfAnyPeriod();
        releaseFirstAtAnyTime();
        releaseFromReleaseNotEnd();
        releaseCodesInTurn();
        releaseRefusedIsNotCounted();
        releaseRefusedChangesNothing();
        releaseManyTimes();
        submitBeforeStart();
        submitWithoutServer();
        submitAmounts();
        submitEightWait();
        submitRoomAfterAFinish();
        submitRefusedChangesNothing();
        submitRefusedKeepsTheDeadline();
        submitRoundTheQueue();
        submitGreatestNeeds();
        stepBeforeStart();
        stepNumbers();
        stepOfNothing();
        stepOfAnySize();
        stepRefusedChangesNothing();
        stepInPartsIsTheSame();
        stepCountsAllThatFinished();
        stepOnAnEmptyKernel();
        due.end();
    }

    private static StackPolicyKernel startedTask(int period, int span, int cost) {
        StackPolicyKernel x = Kernels.withTasks(period, span, cost);
        x.start();
        return x;
    }

    private static StackPolicyKernel startedServer(int size, int period) {
        StackPolicyKernel x = new StackPolicyKernel();
        x.server(size, period);
        x.start();
        return x;
    }

    // Promise 8

    private static void releaseOffBeforeStart() {
        for (Supplier<StackPolicyKernel> scene : Scenes.notStarted()) {
            Refusals on = new Refusals(due, scene);
            on.is("p8 off", x -> x.release(0, 1), OFF);
            on.is("p8 off, no such task", x -> x.release(6, 1), OFF);
            on.is("p8 off, amount 0", x -> x.release(0, 0), OFF);
            for (int far : Edges.FAR) {
                on.is("p8 off, far", x -> x.release(far, far), OFF);
            }
        }
        StackPolicyKernel x = Kernels.withTasks(9, 9, 9);
        due.is("p8 just before the start", x.release(0, 9), OFF);
        x.start();
        due.is("p8 just after the start", x.release(0, 9), 1);
    }

    private static void releaseOfNoTask() {
        for (int tasks = 0; tasks <= 6; tasks++) {
            for (int task : Edges.sweep(-7, 8)) {
                StackPolicyKernel x = new StackPolicyKernel();
                for (int i = 0; i < tasks; i++) {
                    x.task(10, 10, 1);
                }
                x.start();
                boolean there = task >= 0 && task < tasks;
                due.is("p8 task " + task + " of " + tasks, x.release(task, 1), there ? 1 : BAD);
            }
        }
        for (Supplier<StackPolicyKernel> scene : Scenes.started()) {
            for (int task : Edges.sweep(6, 8)) {
                new Refusals(due, scene).is("p8 no task " + task, x -> x.release(task, 1), BAD);
            }
            new Refusals(due, scene).is("p8 no task -1", x -> x.release(-1, 1), BAD);
        }
    }

    private static void releaseAmounts() {
        for (int cost : new int[] {1, 2, 7, 100}) {
            for (int amount : Edges.sweep(-2, 103)) {
                StackPolicyKernel x = startedTask(100, 100, cost);
                boolean right = 1 <= amount && amount <= cost;
                due.is("p8 amount " + amount + " of " + cost, x.release(0, amount), right ? 1 : BAD);
                due.is("p8 to run", x.job(0, 0), right ? amount : NONE);
            }
        }
        Refusals on = new Refusals(due, () -> startedTask(20, 15, 7));
        for (int amount : new int[] {-1, 0, 8, 15, 20, Integer.MIN_VALUE, Integer.MAX_VALUE}) {
            on.is("p8 refused amount " + amount, x -> x.release(0, amount), BAD);
        }
    }

    private static void releaseBusyUntilTheEnd() {
        StackPolicyKernel x = startedTask(5, 5, 5);
        due.is("p8 first", x.release(0, 5), 1);
        for (int t = 0; t < 5; t++) {
            due.is("p8 busy after " + t, x.release(0, 1), BUSY);
            x.step(1);
        }
        due.is("p8 ended", x.release(0, 1), 2);
        due.is("p8 not run yet and busy", x.release(0, 5), BUSY);
    }

    private static void releaseBusyPastThePeriod() {
        // Task 1 runs first for 6 ticks, so the job of task 0 is pending up to time 8.
        StackPolicyKernel x = Kernels.withTasks(7, 7, 2, 6, 6, 6);
        x.start();
        x.release(0, 2);
        x.release(1, 6);
        x.step(6);
        due.is("p8 before its period", x.release(0, 1), BUSY);
        x.step(1);
        due.is("p8 at its period", x.release(0, 1), BUSY);
        x.step(1);
        due.is("p8 ended past its period", x.release(0, 1), 3);
    }

    private static void releaseEarlyByOneTick() {
        StackPolicyKernel x = startedTask(10, 4, 1);
        x.release(0, 1);
        x.step(1);
        due.is("p8 just ended", x.release(0, 1), EARLY);
        x.step(3);
        due.is("p8 at the deadline", x.release(0, 1), EARLY);
        x.step(5);
        due.is("p8 a tick before the period", x.release(0, 1), EARLY);
        x.step(1);
        due.is("p8 at the period", x.release(0, 1), 2);
        x.step(11);
        due.is("p8 a tick behind the period", x.release(0, 1), 3);
    }

    private static void releaseOfAnyPeriod() {
        for (int period = 1; period <= 100; period++) {
            StackPolicyKernel x = startedTask(period, 1, 1);
            due.is("p8 first", x.release(0, 1), 1);
            for (int t = 1; t < period; t++) {
                x.step(1);
                due.is("p8 period " + period + " after " + t, x.release(0, 1), EARLY);
            }
            x.step(1);
            due.is("p8 after the period " + period, x.release(0, 1), 2);
        }
    }

    private static void releaseFirstAtAnyTime() {
        for (int t : new int[] {0, 1, 99, 100, 101}) {
            StackPolicyKernel x = startedTask(100, 60, 1);
            x.step(t);
            due.is("p8 the first at " + t, x.release(0, 1), 1);
            due.is("p8 its deadline", x.job(0, 1), t + 60);
        }
    }

    private static void releaseFromReleaseNotEnd() {
        StackPolicyKernel x = startedTask(10, 10, 9);
        x.step(3);
        x.release(0, 9);
        x.step(9);
        due.is("p8 nine after the release", x.release(0, 1), EARLY);
        x.step(1);
        due.is("p8 ten after the release, one after the end", x.release(0, 9), 2);
    }

    private static void releaseCodesInTurn() {
        StackPolicyKernel x = startedTask(10, 10, 4);
        x.release(0, 2);
        due.is("p8 bad though busy", x.release(0, 5), BAD);
        due.is("p8 bad though busy", x.release(0, 0), BAD);
        due.is("p8 busy though early", x.release(0, 4), BUSY);
        x.step(2);
        due.is("p8 bad though early", x.release(0, 5), BAD);
        due.is("p8 bad though early", x.release(0, 0), BAD);
        due.is("p8 early", x.release(0, 4), EARLY);
        x.step(8);
        due.is("p8 bad though it could be", x.release(0, 5), BAD);
        due.is("p8 released", x.release(0, 4), 2);
    }

    private static void releaseRefusedIsNotCounted() {
        StackPolicyKernel x = Kernels.withTasks(2, 2, 1, 2, 2, 1, 2, 2, 1, 2, 2, 1, 2, 2, 1, 2, 2, 1);
        due.is("p8 off", x.release(0, 1), OFF);
        x.start();
        for (int i = 0; i < 6; i++) {
            due.is("p8 bad", x.release(i, 2), BAD);
            due.is("p8 of all tasks " + i, x.release(i, 1), 1 + i);
            due.is("p8 busy", x.release(i, 1), BUSY);
        }
        x.step(6);
        due.is("p8 the count goes on", x.release(3, 1), 7);
        x.step(1);
        due.is("p8 early", x.release(3, 1), EARLY);
        x.step(1);
        due.is("p8 and on", x.release(3, 1), 8);
    }

    private static void releaseRefusedChangesNothing() {
        for (int i = 0; i < 6; i++) {
            int task = i;
            new Refusals(due, Scenes::crowded).is("p8 busy " + i, x -> x.release(task, 1), BUSY);
        }
        for (int i = 0; i < 3; i++) {
            int task = i;
            new Refusals(due, Scenes::running).is("p8 busy " + i, x -> x.release(task, 1), BUSY);
        }
        new Refusals(due, () -> endedBeforeItsPeriod(9)).is("p8 early", x -> x.release(0, 3), EARLY);
        new Refusals(due, () -> endedBeforeItsPeriod(5)).is("p8 early", x -> x.release(0, 3), EARLY);
        // A refused release is no release: the next is due from the one before it on.
        StackPolicyKernel x = endedBeforeItsPeriod(9);
        due.is("p8 early", x.release(0, 3), EARLY);
        x.step(1);
        due.is("p8 no longer early", x.release(0, 3), 2);
    }

    private static StackPolicyKernel endedBeforeItsPeriod(int time) {
        StackPolicyKernel x = startedTask(10, 8, 4);
        x.release(0, 4);
        x.step(time);
        return x;
    }

    private static void releaseManyTimes() {
        StackPolicyKernel x = startedTask(1, 1, 1);
        for (int n = 1; n <= 250; n++) {
            due.is("p8 job number " + n, x.release(0, 1), n);
            due.is("p8 it ends at once", x.step(1), 1);
        }
    }

    // Promise 9

    private static void submitBeforeStart() {
        for (Supplier<StackPolicyKernel> scene : Scenes.notStarted()) {
            Refusals on = new Refusals(due, scene);
            on.no("p9 not started", x -> x.submit(1));
            on.no("p9 not started, 50", x -> x.submit(50));
            on.no("p9 not started, 51", x -> x.submit(51));
        }
        StackPolicyKernel x = Scenes.made();
        due.no("p9 just before the start", x.submit(1));
        x.start();
        due.yes("p9 just after the start", x.submit(1));
    }

    private static void submitWithoutServer() {
        Refusals on = new Refusals(due, Scenes::emptyStarted);
        Refusals withTask = new Refusals(due, () -> startedTask(10, 10, 4));
        for (int amount : new int[] {0, 1, 50, 51}) {
            on.no("p9 no server " + amount, x -> x.submit(amount));
            withTask.no("p9 a task but no server " + amount, x -> x.submit(amount));
        }
    }

    private static void submitAmounts() {
        Refusals on = new Refusals(due, () -> startedServer(3, 10));
        for (int amount : Edges.sweep(-52, 102)) {
            if (1 <= amount && amount <= 50) {
                StackPolicyKernel x = startedServer(3, 10);
                due.yes("p9 amount " + amount, x.submit(amount));
                due.is("p9 it needs", x.serverFigure(3), amount);
                due.is("p9 it waits", x.serverFigure(2), 1);
            } else {
                on.no("p9 amount " + amount, x -> x.submit(amount));
            }
        }
    }

    private static void submitEightWait() {
        StackPolicyKernel x = startedServer(3, 10);
        for (int n = 0; n < 8; n++) {
            due.is("p9 waiting", x.serverFigure(2), n);
            due.yes("p9 request " + n, x.submit(1));
        }
        due.no("p9 a ninth", x.submit(1));
        due.no("p9 a ninth of 50", x.submit(50));
        due.is("p9 eight wait", x.serverFigure(2), 8);
        due.is("p9 their needs", x.serverFigure(3), 8);
    }

    private static void submitRoomAfterAFinish() {
        StackPolicyKernel x = startedServer(3, 10);
        x.submit(2);
        for (int n = 1; n < 8; n++) {
            x.submit(5);
        }
        x.step(1);
        due.no("p9 the one being served waits too", x.submit(1));
        due.is("p9 finished", x.step(1), 1);
        due.yes("p9 room for one", x.submit(1));
        due.no("p9 and no more", x.submit(1));
        due.is("p9 needs", x.serverFigure(3), 36);
    }

    private static void submitRefusedChangesNothing() {
        Refusals on = new Refusals(due, Scenes::crowded);
        on.no("p9 eight wait", x -> x.submit(1));
        on.no("p9 eight wait, 50", x -> x.submit(50));
        on.no("p9 eight wait, 0", x -> x.submit(0));
        for (Supplier<StackPolicyKernel> scene : Scenes.started()) {
            for (int amount : Edges.sweep(51, 52)) {
                new Refusals(due, scene).no("p9 amount " + amount, x -> x.submit(amount));
            }
            new Refusals(due, scene).no("p9 amount 0", x -> x.submit(0));
            new Refusals(due, scene).no("p9 amount -1", x -> x.submit(-1));
        }
    }

    /** None waits, the deadline is past, and a right request would renew it and the budget. */
    private static StackPolicyKernel servedLongAgo() {
        StackPolicyKernel x = startedServer(3, 10);
        x.submit(2);
        x.step(30);
        return x;
    }

    private static void submitRefusedKeepsTheDeadline() {
        for (int amount : new int[] {0, 51, -1, Integer.MIN_VALUE, Integer.MAX_VALUE}) {
            StackPolicyKernel x = servedLongAgo();
            due.no("p9 refused", x.submit(amount));
            due.is("p9 the deadline is kept", x.serverFigure(0), 10);
            due.is("p9 the budget is kept", x.serverFigure(1), 1);
            due.yes("p9 taken", x.submit(1));
            due.is("p9 the deadline is new", x.serverFigure(0), 40);
            due.is("p9 the budget is full", x.serverFigure(1), 3);
        }
    }

    private static void submitRoundTheQueue() {
        // Requests of 1, 2, 3, .. ticks, always about eight of them, served in their order.
        StackPolicyKernel x = startedServer(100, 100);
        for (int n = 1; n <= 8; n++) {
            due.yes("p9 request " + n, x.submit(n));
        }
        for (int n = 1; n <= 42; n++) {
            due.is("p9 almost done " + n, n > 1 ? x.step(n - 1) : 0, 0);
            due.no("p9 still eight", x.submit(1));
            due.is("p9 done " + n, x.step(1), 1);
            due.yes("p9 room again", x.submit(n + 8));
            due.is("p9 finished", x.serverFigure(5), n);
        }
        // The requests of 43 .. 50 ticks are left.
        due.is("p9 needs", x.serverFigure(3), 372);
    }

    private static void submitGreatestNeeds() {
        StackPolicyKernel x = startedServer(100, 100);
        for (int n = 0; n < 8; n++) {
            x.submit(50);
        }
        due.is("p9 eight of 50", x.serverFigure(3), 400);
        due.is("p9 four of them", x.step(200), 4);
        due.is("p9 all but one", x.step(199), 3);
        due.is("p9 one tick is left", x.serverFigure(3), 1);
        due.is("p9 the last", x.step(1), 1);
        due.is("p9 none", x.serverFigure(3), 0);
    }

    // Promise 10

    private static void stepBeforeStart() {
        for (Supplier<StackPolicyKernel> scene : Scenes.notStarted()) {
            for (int n : new int[] {0, 1, 200, 201, -1}) {
                new Refusals(due, scene).none("p10 not started " + n, x -> x.step(n));
            }
        }
        StackPolicyKernel x = new StackPolicyKernel();
        due.is("p10 just before the start", x.step(0), NONE);
        x.start();
        due.is("p10 just after the start", x.step(0), 0);
    }

    private static void stepNumbers() {
        for (int n : Edges.sweep(-3, 210)) {
            StackPolicyKernel x = Scenes.emptyStarted();
            boolean right = 0 <= n && n <= 200;
            due.is("p10 step " + n, x.step(n), right ? 0 : NONE);
            due.is("p10 time after " + n, x.time(), right ? n : 0);
        }
    }

    private static void stepOfNothing() {
        for (Supplier<StackPolicyKernel> scene : Scenes.started()) {
            new Refusals(due, scene).is("p10 no tick", x -> x.step(0), 0);
        }
    }

    private static void stepOfAnySize() {
        for (int n : new int[] {1, 2, 99, 100, 101, 199, 200}) {
            StackPolicyKernel x = startedTask(100, 100, 100);
            x.release(0, 100);
            due.is("p10 finished in " + n, x.step(n), n >= 100 ? 1 : 0);
            due.is("p10 to run", x.job(0, 0), Math.max(0, 100 - n));
            due.is("p10 idle", x.count(0), Math.max(0, n - 100));
        }
    }

    private static void stepRefusedChangesNothing() {
        for (Supplier<StackPolicyKernel> scene : Scenes.started()) {
            Refusals on = new Refusals(due, scene);
            for (int n : new int[] {-200, -2, -1, 201, 202, 256, 400}) {
                on.none("p10 step " + n, x -> x.step(n));
            }
            for (int far : Edges.FAR) {
                on.none("p10 step " + far, x -> x.step(far));
            }
        }
    }

    private static void stepInPartsIsTheSame() {
        for (Supplier<StackPolicyKernel> scene : Scenes.started()) {
            StackPolicyKernel whole = scene.get();
            StackPolicyKernel parts = scene.get();
            int finished = whole.step(60);
            int sum = 0;
            for (int t = 0; t < 60; t++) {
                sum += parts.step(1) + parts.step(0);
            }
            due.is("p10 finished in parts", sum, finished);
            String changes = State.of(parts).changesSince(State.of(whole));
            due.yes("p10 in parts" + changes, changes.isEmpty());
        }
    }

    private static void stepCountsAllThatFinished() {
        // Six jobs of 1 tick and eight requests of 1 tick: all are done in 14 ticks.
        for (int n = 0; n <= 16; n++) {
            StackPolicyKernel x = Kernels.withTasks(9, 9, 1, 9, 9, 1, 9, 9, 1, 9, 9, 1, 9, 9, 1, 9, 9, 1);
            x.server(8, 20);
            x.start();
            for (int i = 0; i < 6; i++) {
                x.release(i, 1);
            }
            for (int i = 0; i < 8; i++) {
                x.submit(1);
            }
            due.is("p10 finished in " + n, x.step(n), Math.min(n, 14));
            due.is("p10 the rest", x.step(200), 14 - Math.min(n, 14));
            due.is("p10 no more", x.step(200), 0);
        }
    }

    private static void stepOnAnEmptyKernel() {
        StackPolicyKernel x = Scenes.emptyStarted();
        due.is("p10 nothing is finished", x.step(200), 0);
        due.is("p10 all ticks were idle", x.count(0), 200);
        due.is("p10 the time grows", x.time(), 200);
        due.is("p10 none was another", x.count(1), 0);
    }
}
