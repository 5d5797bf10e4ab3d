/** The sentences of "Terms" at their boundaries: levels, the server, the order, ticks, blocking. */
public final class TermsEdgesTest {
    private static final Due due = new Due();
    private static final int NONE = StackPolicyKernel.NONE;

    public static void main(String[] args) {
        serverAtFirst();
        serverFirstRequestAtAnyTime();
        serverRenewedAtTheBoundary();
        serverRenewedAfterUsingUp();
        serverRenewedByAnyNumbers();
        serverNotRenewedWhileOneWaits();
        serverRenewedWhenTheLastIsFinished();
        serverRequestFinished();
        serverBudgetUsedUp();
        serverUsedUpWithNoRequestLeft();
        orderOfDeadlines();
        orderOfJobsWithEqualDeadlines();
        orderOfServerAndJob();
        orderAfterTheDeadlineMoved();
        tickIsIdle();
        tickOfTheServerNeedsNoLevel();
        tickNeedsAGreaterLevel();
        tickOfABegunJobNeedsNoLevel();
        tickOfTheHolder();
        tickOfTheHolderOfTheGreatestCeiling();
        deadlineIsReleaseAndSpan();
        blockedWhileItIsHeld();
        blockedUntilTheHolderEnds();
        blockedOnlyBeforeTheRunner();
        notBlockedByTheServer();
        spellsBetweenSections();
        spellOfInnerAndOuterSections();
        spellsOfLaterJobs();
        spellThatBlocksTwoJobsOfATask();
        due.end();
    }

    private static StackPolicyKernel startedServer(int size, int period) {
        StackPolicyKernel x = new StackPolicyKernel();
        x.server(size, period);
        x.start();
        return x;
    }

    private static void figures(String what, StackPolicyKernel x, int deadline, int budget) {
        due.is(what + ": deadline", x.serverFigure(0), deadline);
        due.is(what + ": budget", x.serverFigure(1), budget);
    }

    // The server

    private static void serverAtFirst() {
        for (int size : new int[] {1, 2, 99, 100}) {
            StackPolicyKernel x = startedServer(size, 100);
            figures("at first", x, 0, size);
            x.step(150);
            figures("without a request", x, 0, size);
        }
    }

    private static void serverFirstRequestAtAnyTime() {
        for (int time : new int[] {0, 1, 9, 10, 11, 200}) {
            StackPolicyKernel x = startedServer(3, 10);
            x.step(time);
            x.submit(5);
            figures("first at " + time, x, time + 10, 3);
        }
    }

    private static void serverRenewedAtTheBoundary() {
        // After one tick: budget 1, deadline 10. At time 5 it is 1 * 10 >= (10 - 5) * 2.
        for (int time = 1; time <= 12; time++) {
            StackPolicyKernel x = startedServer(2, 10);
            x.submit(1);
            x.step(time);
            figures("before", x, 10, 1);
            x.submit(1);
            if (time < 5) {
                figures("kept at " + time, x, 10, 1);
            } else {
                figures("renewed at " + time, x, time + 10, 2);
            }
        }
    }

    private static void serverRenewedAfterUsingUp() {
        // After one tick: budget 1 again, deadline 20. At time 10 it is 1 * 10 >= (20 - 10) * 1.
        for (int time : new int[] {1, 8, 9, 10, 11, 19, 20, 21}) {
            StackPolicyKernel x = startedServer(1, 10);
            x.submit(1);
            x.step(time);
            figures("before", x, 20, 1);
            x.submit(1);
            figures("at " + time, x, time < 10 ? 20 : time + 10, 1);
        }
    }

    private static void serverRenewedByAnyNumbers() {
        for (int period = 1; period <= 100; period += 9) {
            for (int size = 2; size <= period; size += 7) {
                // After a tick the budget is size - 1: renewed from period <= time * size on.
                int boundary = (period + size - 1) / size;
                for (int time = Math.max(1, boundary - 1); time <= boundary + 1; time++) {
                    StackPolicyKernel x = startedServer(size, period);
                    x.submit(1);
                    x.step(time);
                    x.submit(1);
                    boolean renewed = time >= boundary;
                    figures(size + " of " + period + " at " + time, x,
                        renewed ? time + period : period, renewed ? size : size - 1);
                }
            }
        }
    }

    private static void serverNotRenewedWhileOneWaits() {
        // The job runs for 30 ticks, so the first request waits past the server's deadline.
        StackPolicyKernel x = Kernels.withTasks(100, 30, 30);
        x.server(3, 31);
        x.start();
        x.submit(1);
        x.release(0, 30);
        for (int t = 0; t < 31; t++) {
            x.step(t == 0 ? 0 : 1);
            if (t % 5 == 0) {
                x.submit(1);
            }
            figures("one waits at " + t, x, 31, 3);
        }
        x.step(2);
        due.is("it was served", x.serverFigure(5), 2);
        x.submit(2);
        figures("one being served waits", x, 31, 1);
    }

    private static void serverRenewedWhenTheLastIsFinished() {
        StackPolicyKernel x = startedServer(4, 6);
        x.submit(3);
        x.step(2);
        x.submit(1);
        figures("the oldest still waits", x, 6, 2);
        x.step(1);
        x.submit(1);
        figures("the second still waits", x, 6, 1);
        x.step(1);
        due.is("one is left", x.serverFigure(2), 1);
        x.step(2);
        due.is("none is left", x.serverFigure(2), 0);
        // The fourth tick has used the budget up: 3 * 6 < (12 - 6) * 4.
        x.submit(1);
        figures("none waits, but too early", x, 12, 3);
        x.step(2);
        // At time 8 one more is done: 2 * 6 < (12 - 8) * 4, and at 9 2 * 6 >= (12 - 9) * 4.
        figures("one tick more", x, 12, 2);
        x.step(1);
        x.submit(1);
        figures("none waits", x, 15, 4);
    }

    private static void serverRequestFinished() {
        for (int amount : new int[] {1, 2, 49, 50}) {
            StackPolicyKernel x = startedServer(100, 100);
            x.submit(amount);
            due.is("not yet of " + amount, amount > 1 ? x.step(amount - 1) : 0, 0);
            due.is("one tick is needed", x.serverFigure(3), 1);
            due.is("it waits", x.serverFigure(2), 1);
            due.is("it is not finished", x.serverFigure(5), 0);
            due.is("finished", x.step(1), 1);
            due.is("nothing is needed", x.serverFigure(3), 0);
            due.is("it waits no more", x.serverFigure(2), 0);
            due.is("it is finished", x.serverFigure(5), 1);
        }
    }

    private static void serverBudgetUsedUp() {
        for (int size : new int[] {1, 2, 7, 100}) {
            StackPolicyKernel x = startedServer(size, 100);
            for (int i = 0; i < 8; i++) {
                x.submit(50);
            }
            for (int n = 1; n <= 120; n++) {
                x.step(1);
                figures("size " + size + " after " + n, x, 100 + n / size * 100, size - n % size);
                due.is("used up", x.serverFigure(4), n / size);
            }
        }
    }

    private static void serverUsedUpWithNoRequestLeft() {
        for (int amount = 4; amount <= 6; amount++) {
            StackPolicyKernel x = startedServer(5, 20);
            x.submit(amount);
            x.step(amount);
            due.is("none waits", x.serverFigure(2), 0);
            due.is("used up by " + amount, x.serverFigure(4), amount >= 5 ? 1 : 0);
            figures("after " + amount, x, amount >= 5 ? 40 : 20, amount == 5 ? 5 : amount == 4 ? 1 : 4);
        }
    }

    // The order

    private static void orderOfDeadlines() {
        for (int span = 9; span <= 11; span++) {
            StackPolicyKernel x = Kernels.withTasks(50, 10, 2, 50, span, 2);
            x.start();
            x.release(0, 2);
            x.release(1, 2);
            due.is("first with span " + span, x.queued(0), span < 10 ? 3 : 2);
            due.is("second with span " + span, x.queued(1), span < 10 ? 2 : 3);
            x.step(1);
            due.is("it runs", x.ran(0), span < 10 ? 3 : 2);
        }
    }

    private static void orderOfJobsWithEqualDeadlines() {
        // A job of task 5 released five ticks before that of task 0, with the same deadline.
        StackPolicyKernel x = Kernels.withTasks(50, 10, 2, 50, 11, 2, 50, 12, 2, 50, 13, 2, 50, 14, 2,
            50, 15, 9);
        x.start();
        for (int i = 5; i >= 0; i--) {
            x.release(i, 2);
            x.step(i == 0 ? 0 : 1);
        }
        // Each job of 2 ticks has run one tick of it, but that of task 0, which is first.
        for (int k = 0; k < 6; k++) {
            due.is("equal deadlines " + k, x.queued(k), 2 + k);
            due.is("the deadline", x.job(k, 1), 15);
        }
        x.step(7);
        for (int k = 0; k < 7; k++) {
            due.is("ran " + k, x.ran(6 - k), k < 2 ? 2 : k + 1);
        }
    }

    private static void orderOfServerAndJob() {
        for (int task = 0; task < 6; task += 5) {
            for (int span = 9; span <= 11; span++) {
                StackPolicyKernel x = new StackPolicyKernel();
                for (int i = 0; i <= task; i++) {
                    x.task(50, span, 2);
                }
                x.server(1, 10);
                x.start();
                x.submit(3);
                x.release(task, 2);
                due.is("first with span " + span, x.queued(0), span <= 10 ? 2 + task : 1);
                due.is("second with span " + span, x.queued(1), span <= 10 ? 1 : 2 + task);
                x.step(1);
                due.is("it runs", x.ran(0), span <= 10 ? 2 + task : 1);
            }
        }
    }

    private static void orderAfterTheDeadlineMoved() {
        // The server's deadline is 10, 20, 30: the job's of 20 comes after the first tick.
        StackPolicyKernel x = Kernels.withTasks(50, 20, 2);
        x.server(1, 10);
        x.start();
        x.submit(3);
        x.release(0, 2);
        int[] codes = {1, 2, 2, 1, 1, 0};
        for (int t = 0; t < codes.length; t++) {
            x.step(1);
            due.is("tick " + t, x.ran(0), codes[t]);
        }
    }

    // A tick

    private static void tickIsIdle() {
        StackPolicyKernel x = Scenes.made();
        x.start();
        x.step(1);
        due.is("nothing is there", x.ran(0), 0);
        due.is("the time grows", x.time(), 1);
        x.release(0, 1);
        x.step(1);
        due.is("a job", x.ran(0), 2);
        x.step(1);
        due.is("nothing is left", x.ran(0), 0);
        due.is("the time grows", x.time(), 3);
    }

    private static void tickOfTheServerNeedsNoLevel() {
        StackPolicyKernel x = Kernels.withTasks(100, 100, 9, 1, 1, 1);
        x.section(0, 0, 0, 9);
        x.section(1, 0, 0, 1);
        x.server(5, 10);
        x.start();
        x.release(0, 9);
        x.step(1);
        due.is("the greatest ceiling", x.systemCeiling(), 100);
        x.submit(2);
        x.step(1);
        due.is("the server runs", x.ran(0), 1);
        due.is("it is still held", x.holder(0), 0);
    }

    private static void tickNeedsAGreaterLevel() {
        // Job 0 holds resource 0 with the ceiling 51; job 2 has the level 101 - span.
        for (int span = 1; span <= 98; span++) {
            StackPolicyKernel x = Kernels.withTasks(100, 100, 9, 100, 50, 1, 100, span, 1);
            x.section(0, 0, 0, 9);
            x.section(1, 0, 0, 1);
            x.start();
            x.release(0, 9);
            x.step(1);
            x.release(2, 1);
            x.step(1);
            due.is("level " + (101 - span) + " against 51", x.ran(0), span < 50 ? 4 : 2);
            due.is("blocked", x.job(2, 3), span < 50 ? 0 : 1);
        }
    }

    private static void tickOfABegunJobNeedsNoLevel() {
        // Job 1 has run a tick when job 0 waits; its own ceiling is at its level.
        StackPolicyKernel x = Kernels.withTasks(100, 100, 9, 100, 50, 4);
        x.section(0, 0, 0, 9);
        x.section(1, 1, 0, 4);
        x.start();
        x.release(0, 9);
        x.step(1);
        x.release(1, 4);
        for (int n = 1; n <= 4; n++) {
            x.step(1);
            due.is("its tick " + n, x.ran(0), 3);
            due.is("the ceiling", x.systemCeiling(), n < 4 ? 51 : 1);
        }
        x.step(1);
        due.is("then the other", x.ran(0), 2);
    }

    private static void tickOfTheHolder() {
        // Job 1 has the earlier deadline than job 2 but not the resource.
        StackPolicyKernel x = Kernels.withTasks(100, 20, 2, 100, 60, 5, 100, 100, 5);
        x.section(0, 0, 0, 1);
        x.section(2, 0, 0, 5);
        x.start();
        x.release(2, 5);
        x.step(2);
        x.release(0, 2);
        x.release(1, 5);
        for (int t = 0; t < 3; t++) {
            due.is("the first waits", x.queued(0), 2);
            x.step(1);
            due.is("the holder runs, not the second", x.ran(0), 4);
        }
        x.step(2);
        due.is("then the first", x.ran(0) * 10 + x.ran(1), 22);
        x.step(1);
        due.is("then the second", x.ran(0), 3);
    }

    private static void tickOfTheHolderOfTheGreatestCeiling() {
        // Jobs 3, 2 and 1 hold ceilings of 1, 41 and 71, one on top of the other.
        StackPolicyKernel x = Kernels.withTasks(100, 30, 1, 100, 40, 4, 100, 60, 4, 100, 100, 4);
        x.section(3, 0, 0, 4);
        x.section(2, 1, 0, 4);
        x.section(1, 2, 0, 3);
        x.section(0, 2, 0, 1);
        x.start();
        int[] ceilings = {1, 41, 71};
        for (int i = 3; i >= 1; i--) {
            x.release(i, 4);
            x.step(1);
            due.is("held with " + i, x.systemCeiling(), ceilings[3 - i]);
        }
        x.release(0, 1);
        int[] codes = {3, 3, 2, 3, 4, 4, 4, 5, 5, 5, 0};
        for (int t = 0; t < codes.length; t++) {
            x.step(1);
            due.is("tick " + t, x.ran(0), codes[t]);
        }
    }

    private static void deadlineIsReleaseAndSpan() {
        for (int time : new int[] {0, 1, 100, 200}) {
            for (int span : new int[] {1, 2, 99, 100}) {
                StackPolicyKernel x = Kernels.withTasks(100, span, 1);
                x.start();
                x.step(time);
                x.release(0, 1);
                due.is("released at " + time + " with " + span, x.job(0, 1), time + span);
            }
        }
    }

    // Blocked

    /** Job 1 is released when job 0 has run n of its ticks, then all is done. */
    private static StackPolicyKernel releasedAfter(int n, int amount) {
        StackPolicyKernel x = Kernels.withTasks(100, 100, 10, 100, 50, 2);
        x.section(0, 0, 1, 6);
        x.section(1, 0, 0, 2);
        x.start();
        x.release(0, amount);
        x.step(n);
        x.release(1, 2);
        x.step(20);
        return x;
    }

    private static void blocked(String what, StackPolicyKernel x, int task, int blockings, int ticks) {
        due.is(what + ": blockings", x.job(task, 2), blockings);
        due.is(what + ": ticks", x.job(task, 3), ticks);
    }

    private static void blockedWhileItIsHeld() {
        for (int n = 0; n <= 11; n++) {
            StackPolicyKernel x = releasedAfter(n, 10);
            boolean held = 1 < n && n < 6;
            blocked("after " + n, x, 1, held ? 1 : 0, held ? 6 - n : 0);
            due.is("its time", x.worst(1), held ? 8 - n : 2);
            blocked("the holder", x, 0, 0, 0);
        }
    }

    private static void blockedUntilTheHolderEnds() {
        for (int amount = 1; amount <= 6; amount++) {
            for (int n = 0; n <= amount; n++) {
                boolean held = 1 < n && n < amount;
                blocked("amount " + amount + " after " + n, releasedAfter(n, amount), 1,
                    held ? 1 : 0, held ? amount - n : 0);
            }
        }
    }

    private static void blockedOnlyBeforeTheRunner() {
        // Deadlines: job 0 at 22, job 1 at 52, the holder 2 at 80, job 3 at 102.
        StackPolicyKernel x = Kernels.withTasks(100, 20, 1, 100, 50, 1, 100, 80, 6, 100, 100, 1);
        x.section(2, 0, 0, 6);
        x.section(0, 0, 0, 1);
        x.start();
        x.release(2, 6);
        x.step(2);
        x.release(3, 1);
        x.release(1, 1);
        x.step(1);
        blocked("job 1 alone", x, 1, 1, 1);
        x.release(0, 1);
        x.step(1);
        blocked("job 0", x, 0, 1, 1);
        blocked("job 1 behind it", x, 1, 1, 2);
        blocked("the holder", x, 2, 0, 0);
        blocked("job 3 behind the holder", x, 3, 0, 0);
        x.step(200);
        blocked("job 0 at last", x, 0, 1, 3);
        blocked("job 1 at last", x, 1, 1, 4);
        blocked("the holder at last", x, 2, 0, 0);
        blocked("job 3 at last", x, 3, 0, 0);
        due.is("all ended", x.count(2), 4);
    }

    private static void notBlockedByTheServer() {
        StackPolicyKernel x = Kernels.withTasks(100, 50, 3);
        x.server(3, 40);
        x.start();
        x.release(0, 3);
        x.submit(5);
        x.step(3);
        due.is("the server ran", x.ran(0), 1);
        blocked("the server was before it", x, 0, 0, 0);
        x.step(1);
        due.is("the job runs", x.ran(0), 2);
        x.step(10);
        blocked("the server was after it", x, 0, 0, 0);
    }

    // Spells

    private static void spellsBetweenSections() {
        // Sections 0 .. 3 and 3 .. 6 touch: after 3 ticks nothing is held for a moment.
        for (int n = 0; n <= 7; n++) {
            StackPolicyKernel x = Kernels.withTasks(100, 100, 8, 100, 50, 1);
            x.section(0, 0, 0, 3);
            x.section(0, 1, 3, 6);
            x.section(1, 0, 0, 1);
            x.section(1, 1, 0, 1);
            x.start();
            x.release(0, 8);
            x.step(n);
            due.is("a ceiling after " + n, x.systemCeiling(), n % 3 == 0 || n > 6 ? 0 : 51);
            x.release(1, 1);
            x.step(10);
            int ticks = n % 3 == 0 || n > 6 ? 0 : 3 - n % 3;
            blocked("released after " + n, x, 1, ticks > 0 ? 1 : 0, ticks);
        }
    }

    private static void spellOfInnerAndOuterSections() {
        // Job 1 waits for the inner resource alone, job 2 for the outer one: one spell for both.
        StackPolicyKernel x = Kernels.withTasks(100, 100, 9, 100, 50, 1, 100, 80, 1);
        x.section(0, 0, 0, 8);
        x.section(0, 1, 2, 5);
        x.section(1, 1, 0, 1);
        x.section(2, 0, 0, 1);
        x.start();
        x.release(0, 9);
        x.step(3);
        x.release(1, 1);
        x.release(2, 1);
        x.step(2);
        blocked("the inner one", x, 1, 1, 2);
        blocked("both", x, 2, 1, 2);
        x.step(1);
        due.is("job 1 runs within the outer section", x.ran(0), 3);
        x.step(20);
        blocked("the inner one at last", x, 1, 1, 2);
        blocked("the outer one at last", x, 2, 1, 5);
    }

    private static void spellsOfLaterJobs() {
        StackPolicyKernel x = Kernels.withTasks(20, 20, 5, 20, 10, 1);
        x.section(0, 0, 0, 5);
        x.section(1, 0, 0, 1);
        x.start();
        for (int round = 0; round < 4; round++) {
            x.release(0, 5);
            x.step(2);
            x.release(1, 1);
            blocked("a new job in round " + round, x, 1, 0, 0);
            x.step(1);
            blocked("a tick later in round " + round, x, 1, 1, 1);
            x.step(17);
            blocked("at last in round " + round, x, 1, 1, 3);
            due.is("both ended", x.count(2), 2 * round + 2);
        }
        due.is("no job of a third task", x.job(2, 2), NONE);
    }

    private static void spellThatBlocksTwoJobsOfATask() {
        // The outer section makes one spell of both inner ones; task 1 waits for these.
        for (int holder = 0; holder < 2; holder++) {
            int waiter = 1 - holder;
            StackPolicyKernel x = holder == 0 ? Kernels.withTasks(99, 99, 12, 5, 5, 1)
                : Kernels.withTasks(5, 5, 1, 99, 99, 12);
            x.section(holder, 0, 0, 12);
            x.section(holder, 1, 1, 4);
            x.section(holder, 1, 6, 10);
            x.section(waiter, 1, 0, 1);
            x.start();
            x.release(holder, 12);
            x.step(2);
            x.release(waiter, 1);
            x.step(6);
            blocked("the first job", x, waiter, 1, 2);
            due.is("it has ended", x.job(waiter, 0), 0);
            x.release(waiter, 1);
            x.step(1);
            blocked("the second job", x, waiter, 1, 1);
            x.step(10);
            blocked("the second job at last", x, waiter, 1, 3);
        }
    }
}
