import java.util.function.Supplier;

/** Promises 1, 2, 4 and 5 at their boundaries: a new object, task, server and start. */
public final class MakingEdgesTest {
    private static final Due due = new Due();
    private static final int NONE = StackPolicyKernel.NONE;
    private static final int[] NEAR = {Integer.MIN_VALUE, Integer.MIN_VALUE + 1, -101, -100, -1, 0,
        1, 2, 49, 50, 51, 99, 100, 101, 102, 356, Integer.MAX_VALUE - 1, Integer.MAX_VALUE};
    private static final Refusals onNew = new Refusals(due, StackPolicyKernel::new);
    private static final Refusals onMade = new Refusals(due, Scenes::made);
    private static final Refusals onFull = new Refusals(due, Scenes::full);

    public static void main(String[] args) {
        newObjectHasNothing();
        newObjectIsNotStarted();
        newObjectSharesNothing();
        taskCostAtLeastOne();
        taskCostAtMostSpan();
        taskSpanAtMostPeriod();
        taskPeriodAtMostHundred();
        taskOfAnyNumbers();
        taskNumbersRefusedChangeNothing();
        tasksAtMostSix();
        taskRefusedTakesNoNumber();
        taskHasNoSections();
        taskNotWhenStarted();
        serverSizeAtLeastOne();
        serverSizeAtMostPeriod();
        serverPeriodAtMostHundred();
        serverOfAnyNumbers();
        serverInsteadOfAnEarlier();
        serverRefusedChangesNothing();
        serverNotWhenStarted();
        startWithNothing();
        startWithAllThatMayBe();
        startAgainChangesNothing();
        due.end();
    }

    // Promise 1

    private static void newObjectHasNothing() {
        StackPolicyKernel x = new StackPolicyKernel();
        due.is("p1 time", x.time(), 0);
        due.is("p1 verdict", x.verdict(), NONE);
        due.is("p1 systemCeiling", x.systemCeiling(), 0);
        for (int k : Edges.sweep(-2, 7)) {
            due.is("p1 misses " + k, x.misses(k), NONE);
            due.is("p1 worst " + k, x.worst(k), NONE);
            due.is("p1 queued " + k, x.queued(k), 0);
            due.is("p1 serverFigure " + k, x.serverFigure(k), NONE);
            due.is("p1 holder " + k, x.holder(k), NONE);
            due.is("p1 ran " + k, x.ran(k), NONE);
            due.is("p1 ceiling " + k, x.ceiling(k), k >= 0 && k <= 3 ? 0 : NONE);
            due.is("p1 count " + k, x.count(k), k >= 0 && k <= 3 ? 0 : NONE);
            due.is("p1 job " + k, x.job(k, 0), NONE);
            due.is("p1 job 0 " + k, x.job(0, k), NONE);
        }
    }

    private static void newObjectIsNotStarted() {
        for (int k : Edges.sweep(-1, 6)) {
            onNew.none("p1 step " + k, x -> x.step(k));
            onNew.no("p1 submit " + k, x -> x.submit(k));
            onNew.is("p1 release " + k, x -> x.release(k, 1), StackPolicyKernel.OFF);
            onNew.no("p1 section of " + k, x -> x.section(k, 0, 0, 1));
        }
        due.yes("p1 it can be started", new StackPolicyKernel().start());
    }

    private static void newObjectSharesNothing() {
        StackPolicyKernel before = new StackPolicyKernel();
        State untouched = State.of(before);
        Scenes.running();
        Scenes.done();
        due.yes("p1 another object's calls do not show", State.of(before).changesSince(untouched).isEmpty());
        due.yes("p1 nor in a new one", State.of(new StackPolicyKernel()).changesSince(untouched).isEmpty());
    }

    // Promise 2

    private static int taskAlone(int period, int span, int cost) {
        return new StackPolicyKernel().task(period, span, cost);
    }

    private static void taskCostAtLeastOne() {
        due.is("p2 cost -1", taskAlone(10, 10, -1), NONE);
        due.is("p2 cost 0", taskAlone(10, 10, 0), NONE);
        due.is("p2 cost 1", taskAlone(10, 10, 1), 0);
        due.is("p2 cost 2", taskAlone(10, 10, 2), 0);
    }

    private static void taskCostAtMostSpan() {
        due.is("p2 cost below the span", taskAlone(10, 5, 4), 0);
        due.is("p2 cost at the span", taskAlone(10, 5, 5), 0);
        due.is("p2 cost above the span", taskAlone(10, 5, 6), NONE);
        due.is("p2 cost above the span, at the period", taskAlone(10, 5, 10), NONE);
    }

    private static void taskSpanAtMostPeriod() {
        due.is("p2 span below the period", taskAlone(10, 9, 3), 0);
        due.is("p2 span at the period", taskAlone(10, 10, 3), 0);
        due.is("p2 span above the period", taskAlone(10, 11, 3), NONE);
        due.is("p2 span 100 above the period", taskAlone(99, 100, 3), NONE);
    }

    private static void taskPeriodAtMostHundred() {
        due.is("p2 period 99", taskAlone(99, 50, 3), 0);
        due.is("p2 period 100", taskAlone(100, 50, 3), 0);
        due.is("p2 period 101", taskAlone(101, 50, 3), NONE);
        due.is("p2 all 100", taskAlone(100, 100, 100), 0);
        due.is("p2 all 101", taskAlone(101, 101, 101), NONE);
        due.is("p2 all 1", taskAlone(1, 1, 1), 0);
        due.is("p2 all 0", taskAlone(0, 0, 0), NONE);
    }

    private static void taskOfAnyNumbers() {
        for (int period : NEAR) {
            for (int span : NEAR) {
                for (int cost : NEAR) {
                    boolean right = 1 <= cost && cost <= span && span <= period && period <= 100;
                    due.is("p2 task " + period + " " + span + " " + cost,
                        taskAlone(period, span, cost), right ? 0 : NONE);
                }
            }
        }
    }

    private static void taskNumbersRefusedChangeNothing() {
        int[][] wrong = {{10, 10, 0}, {10, 5, 6}, {10, 11, 3}, {101, 50, 3}, {101, 101, 101},
            {0, 0, 0}, {-1, -1, -1}};
        for (int[] w : wrong) {
            onNew.none("p2 task " + w[0] + " " + w[1] + " " + w[2], x -> x.task(w[0], w[1], w[2]));
            onMade.none("p2 fourth task " + w[0] + " " + w[1] + " " + w[2],
                x -> x.task(w[0], w[1], w[2]));
        }
        for (int far : Edges.FAR) {
            onMade.none("p2 period " + far, x -> x.task(far, 10, 5));
            onMade.none("p2 span " + far, x -> x.task(10, far, 5));
            onMade.none("p2 cost " + far, x -> x.task(10, 10, far));
            onMade.none("p2 all " + far, x -> x.task(far, far, far));
        }
    }

    private static void tasksAtMostSix() {
        StackPolicyKernel x = new StackPolicyKernel();
        for (int i = 0; i < 6; i++) {
            due.is("p2 no task " + i + " yet", x.misses(i), NONE);
            due.is("p2 task " + i, x.task(20, 20, 1), i);
            due.is("p2 now there is " + i, x.misses(i), 0);
        }
        due.is("p2 a seventh", x.task(20, 20, 1), NONE);
        due.is("p2 an eighth", x.task(20, 20, 1), NONE);
        due.is("p2 no task 6", x.misses(6), NONE);
        onFull.none("p2 a seventh changes nothing", y -> y.task(20, 20, 1));
        onFull.none("p2 a seventh of wrong numbers", y -> y.task(20, 20, 0));
    }

    private static void taskRefusedTakesNoNumber() {
        StackPolicyKernel x = new StackPolicyKernel();
        for (int i = 0; i < 6; i++) {
            due.is("p2 refused before " + i, x.task(20, 20, 21), NONE);
            due.is("p2 number " + i, x.task(20, 20, 20), i);
        }
    }

    private static void taskHasNoSections() {
        StackPolicyKernel x = Kernels.withTasks(10, 10, 4);
        for (int r = 0; r < 4; r++) {
            due.is("p2 no section with " + r, x.ceiling(r), 0);
        }
        for (int r = 0; r < 4; r++) {
            due.yes("p2 room for section " + r, x.section(0, r, 0, 4));
        }
    }

    private static void taskNotWhenStarted() {
        for (Supplier<StackPolicyKernel> scene : Scenes.started()) {
            new Refusals(due, scene).none("p2 when started", x -> x.task(10, 10, 1));
        }
        StackPolicyKernel x = new StackPolicyKernel();
        due.is("p2 just before the start", x.task(10, 10, 1), 0);
        x.start();
        due.is("p2 just after the start", x.task(10, 10, 1), NONE);
    }

    // Promise 4

    private static boolean serverAlone(int size, int period) {
        return new StackPolicyKernel().server(size, period);
    }

    private static void serverSizeAtLeastOne() {
        due.no("p4 size -1", serverAlone(-1, 10));
        due.no("p4 size 0", serverAlone(0, 10));
        due.yes("p4 size 1", serverAlone(1, 10));
        due.yes("p4 size 2", serverAlone(2, 10));
    }

    private static void serverSizeAtMostPeriod() {
        due.yes("p4 size below the period", serverAlone(9, 10));
        due.yes("p4 size at the period", serverAlone(10, 10));
        due.no("p4 size above the period", serverAlone(11, 10));
        due.yes("p4 both 1", serverAlone(1, 1));
        due.no("p4 2 in 1", serverAlone(2, 1));
        due.no("p4 both 0", serverAlone(0, 0));
    }

    private static void serverPeriodAtMostHundred() {
        due.yes("p4 period 99", serverAlone(5, 99));
        due.yes("p4 period 100", serverAlone(5, 100));
        due.no("p4 period 101", serverAlone(5, 101));
        due.yes("p4 both 100", serverAlone(100, 100));
        due.no("p4 both 101", serverAlone(101, 101));
    }

    private static void serverOfAnyNumbers() {
        for (int size : NEAR) {
            for (int period : NEAR) {
                boolean right = 1 <= size && size <= period && period <= 100;
                due.is("p4 server " + size + " " + period, serverAlone(size, period) ? 1 : 0,
                    right ? 1 : 0);
            }
        }
    }

    private static void serverInsteadOfAnEarlier() {
        int[][] servers = {{100, 100}, {1, 100}, {1, 1}, {3, 7}, {3, 9}, {2, 9}};
        StackPolicyKernel x = new StackPolicyKernel();
        for (int[] s : servers) {
            due.yes("p4 instead " + s[0] + " " + s[1], x.server(s[0], s[1]));
            due.is("p4 its deadline", x.serverFigure(0), 0);
            due.is("p4 its budget", x.serverFigure(1), s[0]);
            StackPolicyKernel y = new StackPolicyKernel();
            y.server(5, 50);
            y.server(s[0], s[1]);
            y.start();
            y.submit(1);
            due.is("p4 its period", y.serverFigure(0), s[1]);
            due.is("p4 its size", y.serverFigure(1), s[0]);
        }
    }

    private static void serverRefusedChangesNothing() {
        int[][] wrong = {{0, 10}, {-1, 10}, {11, 10}, {5, 101}, {101, 101}, {0, 0}, {1, 0}, {-2, -1}};
        for (int[] w : wrong) {
            onNew.no("p4 first " + w[0] + " " + w[1], x -> x.server(w[0], w[1]));
            onMade.no("p4 second " + w[0] + " " + w[1], x -> x.server(w[0], w[1]));
        }
        for (int far : Edges.FAR) {
            onNew.no("p4 size " + far, x -> x.server(far, 10));
            onMade.no("p4 period " + far, x -> x.server(1, far));
            onMade.no("p4 both " + far, x -> x.server(far, far));
        }
    }

    private static void serverNotWhenStarted() {
        for (Supplier<StackPolicyKernel> scene : Scenes.started()) {
            new Refusals(due, scene).no("p4 when started", x -> x.server(1, 2));
        }
        StackPolicyKernel x = new StackPolicyKernel();
        due.yes("p4 just before the start", x.server(4, 9));
        x.start();
        due.no("p4 just after the start", x.server(5, 8));
        due.is("p4 the earlier stays", x.serverFigure(1), 4);
    }

    // Promise 5

    private static void startWithNothing() {
        StackPolicyKernel x = new StackPolicyKernel();
        due.yes("p5 start", x.start());
        due.is("p5 time", x.time(), 0);
        due.is("p5 an idle tick", x.step(1), 0);
        due.is("p5 its code", x.ran(0), 0);
        due.is("p5 the time grows", x.time(), 1);
        due.is("p5 no task", x.release(0, 1), StackPolicyKernel.BAD);
        due.no("p5 no server", x.submit(1));
    }

    private static void startWithAllThatMayBe() {
        for (Supplier<StackPolicyKernel> scene : Scenes.notStarted()) {
            StackPolicyKernel x = scene.get();
            State before = State.of(x);
            due.yes("p5 start", x.start());
            String changes = State.of(x).changesSince(before);
            due.yes("p5 what was made stays:" + changes, changes.isEmpty());
        }
        StackPolicyKernel full = Scenes.full();
        full.start();
        due.is("p5 the sixth task", full.release(5, 8), 1);
        due.yes("p5 the server", full.submit(50));
    }

    private static void startAgainChangesNothing() {
        for (Supplier<StackPolicyKernel> scene : Scenes.started()) {
            new Refusals(due, scene).no("p5 started already", StackPolicyKernel::start);
        }
        StackPolicyKernel x = new StackPolicyKernel();
        due.yes("p5 once", x.start());
        due.no("p5 twice", x.start());
        due.no("p5 thrice", x.start());
    }
}
