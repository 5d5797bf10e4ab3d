/** Promises 11 to 20: what is answered of the time, the ticks, the jobs and the server. */
public final class AnswersTest {
    private static final Due due = new Due();
    private static final int NONE = StackPolicyKernel.NONE;
    private static final int[] FAR = {Integer.MIN_VALUE, Integer.MAX_VALUE};

    public static void main(String[] args) {
        timeGrowsByTicks();
        ranLooksBack();
        ranKeepsSixtyFour();
        queuedInOrder();
        holderWhileHeld();
        holderOfAShortJob();
        ceilingOfTheSystem();
        jobFigures();
        blockedJobs();
        blockedInTheLastTickOfASpell();
        blockedTwiceByOneSpell();
        twoSpellsOfOneJob();
        missesOnce();
        worstResponse();
        serverFigures();
        counts();
        due.end();
    }

    private static void timeGrowsByTicks() {
        StackPolicyKernel x = Kernels.withTasks(10, 10, 2);
        due.is("p11 before start", x.time(), 0);
        x.start();
        due.is("p11 at the start", x.time(), 0);
        x.release(0, 2);
        due.is("p11 a release takes none", x.time(), 0);
        x.step(5);
        due.is("p11 busy and idle ticks", x.time(), 5);
        x.step(200);
        due.is("p11 more", x.time(), 205);
    }

    private static void ranLooksBack() {
        StackPolicyKernel x = Kernels.withTasks(10, 10, 1, 20, 20, 1);
        x.server(1, 30);
        due.is("p12 before start", x.ran(0), NONE);
        x.start();
        due.is("p12 no tick", x.ran(0), NONE);
        x.release(0, 1);
        x.release(1, 1);
        x.submit(1);
        x.step(4);
        due.is("p12 idle", x.ran(0), 0);
        due.is("p12 server", x.ran(1), 1);
        due.is("p12 task 1", x.ran(2), 3);
        due.is("p12 task 0", x.ran(3), 2);
        due.is("p12 no fifth", x.ran(4), NONE);
        due.is("p12 -1", x.ran(-1), NONE);
        for (int far : FAR) {
            due.is("p12 far", x.ran(far), NONE);
        }
    }

    private static void ranKeepsSixtyFour() {
        StackPolicyKernel x = Kernels.withTasks(10, 10, 1);
        x.start();
        x.release(0, 1);
        x.step(63);
        due.is("p12 62 back", x.ran(62), 2);
        due.is("p12 63 back is not there", x.ran(63), NONE);
        x.step(1);
        due.is("p12 63 back", x.ran(63), 2);
        due.is("p12 64 back", x.ran(64), NONE);
        x.step(1);
        due.is("p12 now idle", x.ran(63), 0);
        due.is("p12 64 back never", x.ran(64), NONE);
        x.release(0, 1);
        x.step(20);
        due.is("p12 after a turn", x.ran(19), 2);
        due.is("p12 beside it", x.ran(18) + x.ran(20), 0);
    }

    private static void queuedInOrder() {
        StackPolicyKernel x = Kernels.withTasks(20, 20, 2, 20, 12, 2, 20, 20, 2);
        x.server(2, 20);
        due.is("p13 before start", x.queued(0), 0);
        x.start();
        due.is("p13 nobody", x.queued(0), 0);
        x.submit(1);
        due.is("p13 the server alone", x.queued(0), 1);
        x.release(2, 2);
        x.release(0, 2);
        x.release(1, 2);
        int[] order = {3, 2, 4, 1, 0, 0};
        for (int k = 0; k < order.length; k++) {
            due.is("p13 place " + k, x.queued(k), order[k]);
        }
        due.is("p13 -1", x.queued(-1), 0);
        for (int far : FAR) {
            due.is("p13 far", x.queued(far), 0);
        }
        x.step(2);
        due.is("p13 an ended job is gone", x.queued(0), 2);
        x.step(5);
        due.is("p13 all is done", x.queued(0), 0);
    }

    private static void holderWhileHeld() {
        StackPolicyKernel x = Kernels.withTasks(50, 50, 1, 20, 20, 9);
        x.section(1, 0, 2, 5);
        x.section(1, 1, 3, 5);
        x.section(1, 3, 6, 7);
        x.start();
        x.release(1, 9);
        int[] first = {NONE, NONE, NONE, 1, 1, NONE, NONE, NONE, NONE, NONE};
        int[] second = {NONE, NONE, NONE, NONE, 1, NONE, NONE, NONE, NONE, NONE};
        for (int n = 0; n < first.length; n++) {
            due.is("p14 resource 0 after " + n, x.holder(0), first[n]);
            due.is("p14 resource 1 after " + n, x.holder(1), second[n]);
            due.is("p14 nobody after " + n, x.holder(2), NONE);
            due.is("p14 a tick alone is not held after " + n, x.holder(3), NONE);
            x.step(1);
        }
        due.is("p14 no resource 4", x.holder(4), NONE);
        due.is("p14 no resource -1", x.holder(-1), NONE);
        for (int far : FAR) {
            due.is("p14 far", x.holder(far), NONE);
        }
    }

    private static void holderOfAShortJob() {
        StackPolicyKernel x = Kernels.withTasks(20, 20, 9);
        x.section(0, 2, 0, 9);
        x.start();
        x.release(0, 3);
        x.step(2);
        due.is("p14 held", x.holder(2), 0);
        x.step(1);
        due.is("p14 an ended job holds nothing", x.holder(2), NONE);
        due.is("p15 an ended job holds nothing", x.systemCeiling(), 0);
        x.step(17);
        x.release(0, 9);
        due.is("p14 a new job holds nothing", x.holder(2), NONE);
    }

    private static void ceilingOfTheSystem() {
        StackPolicyKernel x = Kernels.withTasks(60, 60, 9, 30, 30, 2, 10, 10, 2);
        x.section(0, 0, 0, 8);
        x.section(0, 1, 1, 6);
        x.section(0, 2, 2, 4);
        x.section(1, 2, 0, 1);
        x.section(2, 1, 0, 1);
        due.is("p15 before start", x.systemCeiling(), 0);
        x.start();
        x.release(0, 9);
        int[] ceilings = {0, 41, 91, 91, 91, 91, 41, 41, 0, 0};
        for (int n = 0; n < ceilings.length; n++) {
            due.is("p15 after " + n, x.systemCeiling(), ceilings[n]);
            x.step(1);
        }
    }

    private static void jobFigures() {
        StackPolicyKernel x = Kernels.withTasks(20, 15, 5, 20, 20, 3);
        due.is("p16 before start", x.job(0, 0), NONE);
        x.start();
        due.is("p16 none released", x.job(0, 0), NONE);
        x.step(4);
        x.release(0, 4);
        due.is("p16 to run", x.job(0, 0), 4);
        due.is("p16 deadline", x.job(0, 1), 19);
        due.is("p16 blockings", x.job(0, 2), 0);
        due.is("p16 blocked", x.job(0, 3), 0);
        due.is("p16 k 4", x.job(0, 4), NONE);
        due.is("p16 k -1", x.job(0, -1), NONE);
        due.is("p16 task 2", x.job(2, 0), NONE);
        due.is("p16 task -1", x.job(-1, 0), NONE);
        due.is("p16 the other has none", x.job(1, 1), NONE);
        for (int far : FAR) {
            due.is("p16 far task", x.job(far, 0), NONE);
            due.is("p16 far k", x.job(0, far), NONE);
        }
        x.step(3);
        due.is("p16 one left", x.job(0, 0), 1);
        x.step(3);
        due.is("p16 ended", x.job(0, 0), 0);
        due.is("p16 the deadline stays", x.job(0, 1), 19);
        x.step(20);
        x.release(0, 2);
        due.is("p16 the latest", x.job(0, 1), 45);
    }

    private static void blockedJobs() {
        // Task 0 holds a resource of task 2; task 1 is blocked too, the server does not block.
        StackPolicyKernel x = Kernels.withTasks(60, 60, 9, 30, 30, 3, 20, 20, 3);
        x.section(0, 0, 1, 6);
        x.section(2, 0, 0, 2);
        x.server(2, 6);
        x.start();
        x.release(0, 9);
        x.step(3);
        x.release(1, 3);
        x.step(1);
        due.is("p16 blocked once", x.job(1, 3), 1);
        x.submit(2);
        x.step(2);
        due.is("p16 the server ran", x.ran(0) * 10 + x.ran(1), 11);
        due.is("p16 not blocked by the server", x.job(1, 3), 1);
        x.release(2, 3);
        x.step(2);
        due.is("p16 task 1 blocked", x.job(1, 3), 3);
        due.is("p16 task 2 blocked", x.job(2, 3), 2);
        due.is("p16 the holder is not blocked", x.job(0, 3), 0);
        x.step(3);
        due.is("p16 waiting for an earlier job is not being blocked", x.job(1, 3), 3);
        due.is("p16 task 2 ran", x.job(2, 0), 0);
        due.is("p16 blockings of task 1", x.job(1, 2), 1);
        due.is("p16 blockings of task 2", x.job(2, 2), 1);
        due.is("p16 blockings of the holder", x.job(0, 2), 0);
        x.step(20);
        due.is("p16 they stay", x.job(1, 2) * 10 + x.job(1, 3), 13);
    }

    private static void blockedInTheLastTickOfASpell() {
        StackPolicyKernel x = Kernels.withTasks(20, 20, 2, 60, 60, 9);
        x.section(1, 0, 0, 5);
        x.section(0, 0, 0, 2);
        x.start();
        x.release(1, 9);
        x.step(4);
        x.release(0, 2);
        x.step(1);
        due.is("p16 the spell's last tick blocks", x.job(0, 2) * 10 + x.job(0, 3), 11);
        due.is("p14 nobody holds it after that", x.holder(0), NONE);
        x.step(2);
        due.is("p16 then it runs", x.job(0, 0), 0);
        due.is("p16 and is blocked no more", x.job(0, 2) * 10 + x.job(0, 3), 11);
        // A spell that ends because its job ends.
        x.step(20);
        x.release(0, 1);
        x.step(40);
        due.is("p16 next job", x.release(1, 3), 4);
        x.step(2);
        x.release(0, 2);
        x.step(1);
        due.is("p16 the holder ended", x.job(1, 0), 0);
        due.is("p16 its last tick blocks", x.job(0, 2) * 10 + x.job(0, 3), 11);
    }

    private static void blockedTwiceByOneSpell() {
        // The outer section makes one spell of all; both jobs of task 1 wait for an inner one.
        StackPolicyKernel x = Kernels.withTasks(100, 100, 12, 5, 4, 1);
        x.section(0, 0, 0, 11);
        x.section(0, 1, 1, 4);
        x.section(0, 1, 6, 10);
        x.section(1, 1, 0, 1);
        x.start();
        x.release(0, 12);
        x.step(2);
        x.release(1, 1);
        x.step(3);
        due.is("p16 first job blocked", x.job(1, 2) * 10 + x.job(1, 3), 12);
        due.is("p16 first job ended", x.job(1, 0), 0);
        x.step(3);
        due.is("p16 second job", x.release(1, 1), 3);
        due.is("p16 counted anew", x.job(1, 2) * 10 + x.job(1, 3), 0);
        x.step(4);
        due.is("p16 second job blocked", x.job(1, 2) * 10 + x.job(1, 3), 13);
        due.is("p17 no miss", x.misses(1), 0);
    }

    private static void twoSpellsOfOneJob() {
        // Touching sections make two spells; the second begins when task 1 has gone before.
        StackPolicyKernel x = Kernels.withTasks(100, 100, 12, 9, 8, 2);
        x.section(0, 0, 0, 4);
        x.section(0, 0, 4, 8);
        x.section(1, 0, 0, 2);
        x.start();
        x.release(0, 12);
        x.step(2);
        x.release(1, 2);
        x.step(3);
        due.is("p16 only up to the end of the spell", x.ran(0), 3);
        due.is("p16 one spell", x.job(1, 2) * 10 + x.job(1, 3), 12);
        x.step(6);
        due.is("p16 the other spell", x.release(1, 2), 3);
        x.step(1);
        due.is("p16 nothing held", x.ran(0), 3);
        due.is("p16 not blocked", x.job(1, 2) * 10 + x.job(1, 3), 0);
    }

    private static void missesOnce() {
        StackPolicyKernel x = Kernels.withTasks(4, 4, 4, 5, 5, 3);
        due.is("p17 none yet", x.misses(0), 0);
        due.is("p17 no task 2", x.misses(2), NONE);
        due.is("p17 no task -1", x.misses(-1), NONE);
        for (int far : FAR) {
            due.is("p17 far", x.misses(far), NONE);
        }
        x.start();
        x.release(0, 4);
        x.release(1, 3);
        x.step(4);
        due.is("p17 an end at the deadline is no miss", x.misses(0), 0);
        due.is("p17 before the deadline", x.misses(1), 0);
        x.step(1);
        due.is("p17 at the deadline", x.misses(1), 1);
        due.is("p17 it goes on", x.job(1, 0), 2);
        x.step(1);
        due.is("p17 once", x.misses(1), 1);
        x.step(1);
        due.is("p17 it ends", x.job(1, 0), 0);
        x.release(0, 4);
        x.release(1, 3);
        x.step(5);
        due.is("p17 the next job", x.misses(1), 2);
        due.is("p17 of the other none", x.misses(0), 0);
        StackPolicyKernel y = Kernels.withTasks(5, 5, 3, 4, 4, 4);
        y.start();
        y.release(0, 3);
        y.release(1, 4);
        y.step(30);
        due.is("p17 task 0", y.misses(0), 1);
        due.is("p17 task 1", y.misses(1), 0);
    }

    private static void worstResponse() {
        StackPolicyKernel x = Kernels.withTasks(10, 10, 3, 20, 20, 4);
        due.is("p18 none yet", x.worst(0), 0);
        due.is("p18 no task 2", x.worst(2), NONE);
        due.is("p18 no task -1", x.worst(-1), NONE);
        for (int far : FAR) {
            due.is("p18 far", x.worst(far), NONE);
        }
        x.start();
        x.step(2);
        x.release(0, 3);
        x.release(1, 4);
        x.step(2);
        due.is("p18 not ended", x.worst(0), 0);
        x.step(1);
        due.is("p18 task 0", x.worst(0), 3);
        x.step(4);
        due.is("p18 with the waiting", x.worst(1), 7);
        x.step(13);
        x.release(0, 1);
        x.release(1, 4);
        x.step(10);
        due.is("p18 the greatest stays", x.worst(0), 3);
        due.is("p18 the greatest stays", x.worst(1), 7);
    }

    private static void serverFigures() {
        StackPolicyKernel x = Kernels.withTasks(100, 3, 3);
        due.is("p19 no server", x.serverFigure(0), NONE);
        x.server(3, 7);
        int[] before = {0, 3, 0, 0, 0, 0};
        for (int k = 0; k < before.length; k++) {
            due.is("p19 before start " + k, x.serverFigure(k), before[k]);
        }
        x.start();
        x.release(0, 3);
        x.submit(2);
        x.submit(5);
        x.step(7);
        int[] after = {14, 2, 1, 3, 1, 1};
        for (int k = 0; k < after.length; k++) {
            due.is("p19 later " + k, x.serverFigure(k), after[k]);
        }
        due.is("p19 k 6", x.serverFigure(6), NONE);
        due.is("p19 k -1", x.serverFigure(-1), NONE);
        for (int far : FAR) {
            due.is("p19 far", x.serverFigure(far), NONE);
        }
    }

    private static void counts() {
        StackPolicyKernel x = Kernels.withTasks(20, 20, 4, 10, 10, 2);
        x.start();
        x.release(0, 4);
        due.is("p20 not begun", x.count(3), 0);
        x.step(1);
        due.is("p20 the first tick is no change", x.count(1), 0);
        due.is("p20 begun", x.count(3), 1);
        x.release(1, 2);
        due.is("p20 one has not begun", x.count(3), 1);
        x.step(1);
        due.is("p20 both have begun", x.count(3), 2);
        due.is("p20 a change", x.count(1), 1);
        x.step(1);
        due.is("p20 one ended", x.count(2), 1);
        due.is("p20 one left", x.count(3), 1);
        x.step(5);
        due.is("p20 idle ticks", x.count(0), 2);
        due.is("p20 changes", x.count(1), 3);
        due.is("p20 ended", x.count(2), 2);
        due.is("p20 none left", x.count(3), 0);
        due.is("p20 k 4", x.count(4), NONE);
        due.is("p20 k -1", x.count(-1), NONE);
        for (int far : FAR) {
            due.is("p20 far", x.count(far), NONE);
        }
    }
}
