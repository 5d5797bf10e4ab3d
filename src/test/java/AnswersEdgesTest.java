import java.util.ArrayList;
import java.util.List;
import java.util.function.Supplier;
import java.util.function.ToIntBiFunction;

/** Promises 11 to 20 at their boundaries: what is answered of the state. */
public final class AnswersEdgesTest {
    private static final Due due = new Due();
    private static final int NONE = StackPolicyKernel.NONE;

    public static void main(String[] args) {
        answersChangeNothing();
        timeBeforeStart();
        timeByTicksAlone();
        ranBeforeAnyTick();
        ranNotSoManyTicks();
        ranAtMostSixtyThree();
        ranRoundTheRing();
        ranCodes();
        queuedNobody();
        queuedOne();
        queuedAllSeven();
        queuedNegative();
        holderResources();
        holderFromAndTo();
        holderOfShortSections();
        holderOfAnEndedJob();
        systemCeilingOfNothing();
        systemCeilingGreatest();
        systemCeilingLevels();
        jobTasks();
        jobFigures();
        jobToRun();
        jobOfTheLatest();
        missesTasks();
        missesAtTheDeadline();
        missesOnceEach();
        missesTogether();
        worstTasks();
        worstOfNone();
        worstIsTheGreatest();
        serverFiguresWithoutServer();
        serverFiguresBeforeStart();
        serverFigureNumbers();
        countNumbers();
        countIdle();
        countChangesFromTheSecondTick();
        countEnded();
        countBegun();
        due.end();
    }

    private static List<Supplier<StackPolicyKernel>> allScenes() {
        List<Supplier<StackPolicyKernel>> all = new ArrayList<>(Scenes.notStarted());
        all.addAll(Scenes.started());
        return all;
    }

    private static StackPolicyKernel startedTask(int period, int span, int cost) {
        StackPolicyKernel x = Kernels.withTasks(period, span, cost);
        x.start();
        return x;
    }

    /** Each call that takes a number, for any number, in any state. */
    private static void answersChangeNothing() {
        List<ToIntBiFunction<StackPolicyKernel, Integer>> calls = List.of(
            (x, k) -> x.ceiling(k), (x, k) -> x.ran(k), (x, k) -> x.queued(k),
            (x, k) -> x.holder(k), (x, k) -> x.misses(k), (x, k) -> x.worst(k),
            (x, k) -> x.serverFigure(k), (x, k) -> x.count(k),
            (x, k) -> x.job(k, 0) + x.job(0, k) + x.job(k, k));
        for (Supplier<StackPolicyKernel> scene : allScenes()) {
            for (int call = 0; call < calls.size(); call++) {
                StackPolicyKernel x = scene.get();
                State before = State.of(x);
                for (int k : Edges.sweep(-3, 8)) {
                    calls.get(call).applyAsInt(x, k);
                }
                x.verdict();
                x.time();
                x.systemCeiling();
                String changes = State.of(x).changesSince(before);
                due.yes("an answer changed" + changes, changes.isEmpty());
            }
        }
    }

    // Promise 11

    private static void timeBeforeStart() {
        for (Supplier<StackPolicyKernel> scene : Scenes.notStarted()) {
            StackPolicyKernel x = scene.get();
            due.is("p11 before the start", x.time(), 0);
            x.step(5);
            due.is("p11 no tick before the start", x.time(), 0);
            x.start();
            due.is("p11 at the start", x.time(), 0);
            x.step(1);
            due.is("p11 after a tick", x.time(), 1);
        }
    }

    private static void timeByTicksAlone() {
        StackPolicyKernel x = Scenes.made();
        x.start();
        x.release(0, 6);
        x.submit(5);
        x.step(0);
        x.step(-1);
        x.step(201);
        x.start();
        due.is("p11 without a tick", x.time(), 0);
        x.step(200);
        due.is("p11 200 ticks", x.time(), 200);
        x.step(1);
        due.is("p11 one more", x.time(), 201);
    }

    // Promise 12

    private static void ranBeforeAnyTick() {
        for (StackPolicyKernel x : new StackPolicyKernel[] {new StackPolicyKernel(),
            Scenes.emptyStarted(), Scenes.full()}) {
            for (int k : Edges.sweep(-65, 65)) {
                due.is("p12 no tick, " + k, x.ran(k), NONE);
            }
        }
    }

    private static void ranNotSoManyTicks() {
        for (int ticks : new int[] {1, 2, 62, 63, 64, 65, 66, 127, 128, 129, 200}) {
            StackPolicyKernel x = Scenes.emptyStarted();
            x.step(ticks);
            for (int k : Edges.sweep(-130, 130)) {
                due.is("p12 of " + ticks + " ticks, " + k, x.ran(k),
                    k >= 0 && k <= 63 && k < ticks ? 0 : NONE);
            }
        }
    }

    private static void ranAtMostSixtyThree() {
        // One tick with the code 2, then idle ones: it is 63 back after 64 ticks and then gone.
        StackPolicyKernel x = startedTask(100, 1, 1);
        x.release(0, 1);
        x.step(1);
        for (int t = 1; t <= 70; t++) {
            due.is("p12 the first tick after " + t, x.ran(t - 1), t <= 64 ? 2 : NONE);
            due.is("p12 before it after " + t, x.ran(t), NONE);
            x.step(1);
            due.is("p12 the latest after " + t, x.ran(0), 0);
        }
    }

    private static void ranRoundTheRing() {
        // A tick with the code 2 every 7 ticks.
        StackPolicyKernel x = startedTask(7, 7, 1);
        for (int t = 0; t < 20; t++) {
            x.release(0, 1);
            x.step(7);
        }
        for (int k = 0; k < 64; k++) {
            due.is("p12 of 140 ticks, " + k, x.ran(k), k % 7 == 6 ? 2 : 0);
        }
        x.step(3);
        for (int k = 0; k < 64; k++) {
            due.is("p12 of 143 ticks, " + k, x.ran(k), k % 7 == 2 && k > 3 ? 2 : 0);
        }
    }

    private static void ranCodes() {
        StackPolicyKernel x = Kernels.withTasks(20, 11, 1, 20, 12, 1, 20, 13, 1, 20, 14, 1, 20, 15, 1,
            20, 16, 1);
        x.server(1, 17);
        x.start();
        for (int i = 0; i < 6; i++) {
            x.release(i, 1);
        }
        x.submit(1);
        x.step(8);
        int[] codes = {0, 1, 7, 6, 5, 4, 3, 2};
        for (int k = 0; k < codes.length; k++) {
            due.is("p12 code " + k + " back", x.ran(k), codes[k]);
        }
    }

    // Promise 13

    private static void queuedNobody() {
        for (StackPolicyKernel x : new StackPolicyKernel[] {new StackPolicyKernel(), Scenes.full(),
            Scenes.emptyStarted(), Scenes.done()}) {
            for (int k : Edges.sweep(-8, 8)) {
                due.is("p13 nobody at " + k, x.queued(k), 0);
            }
        }
    }

    private static void queuedOne() {
        StackPolicyKernel job = startedTask(20, 20, 5);
        job.release(0, 5);
        due.is("p13 the job", job.queued(0), 2);
        due.is("p13 behind the job", job.queued(1), 0);
        due.is("p13 before the job", job.queued(-1), 0);
        job.step(4);
        due.is("p13 a tick before its end", job.queued(0), 2);
        job.step(1);
        due.is("p13 at its end", job.queued(0), 0);
        StackPolicyKernel server = new StackPolicyKernel();
        server.server(2, 10);
        server.start();
        due.is("p13 no request", server.queued(0), 0);
        server.submit(3);
        due.is("p13 the server", server.queued(0), 1);
        due.is("p13 once for all requests", server.queued(1), 0);
        server.submit(1);
        due.is("p13 once for two requests", server.queued(1), 0);
        server.step(3);
        due.is("p13 one request is left", server.queued(0), 1);
        server.step(1);
        due.is("p13 none is left", server.queued(0), 0);
    }

    private static void queuedAllSeven() {
        // Deadlines 40 .. 44 and 45 from one tick earlier on, and the server's at 26.
        StackPolicyKernel x = Scenes.crowded();
        int[] order = {1, 2, 3, 4, 5, 6, 7};
        for (int k : Edges.sweep(-8, 16)) {
            due.is("p13 of seven, " + k, x.queued(k), k >= 0 && k < 7 ? order[k] : 0);
        }
        StackPolicyKernel equal = Kernels.withTasks(9, 9, 1, 9, 9, 1, 9, 9, 1, 9, 9, 1, 9, 9, 1, 9, 9, 1);
        equal.server(1, 9);
        equal.start();
        equal.submit(1);
        for (int i = 5; i >= 0; i--) {
            equal.release(i, 1);
        }
        int[] byTask = {2, 3, 4, 5, 6, 7, 1};
        for (int k : Edges.sweep(-1, 8)) {
            due.is("p13 of equal deadlines, " + k, equal.queued(k), k >= 0 && k < 7 ? byTask[k] : 0);
        }
    }

    private static void queuedNegative() {
        for (Supplier<StackPolicyKernel> scene : allScenes()) {
            StackPolicyKernel x = scene.get();
            for (int k : Edges.sweep(-100, -1)) {
                if (k < 0) {
                    due.is("p13 negative " + k, x.queued(k), 0);
                }
            }
        }
    }

    // Promise 14

    private static void holderResources() {
        for (Supplier<StackPolicyKernel> scene : allScenes()) {
            StackPolicyKernel x = scene.get();
            for (int r : Edges.sweep(-9, 9)) {
                if (r < 0 || r > 3) {
                    due.is("p14 no resource " + r, x.holder(r), NONE);
                }
            }
        }
        int[] held = {0, NONE, 2, NONE};
        for (int r = 0; r < 4; r++) {
            due.is("p14 resource " + r, Scenes.running().holder(r), held[r]);
        }
    }

    private static void holderFromAndTo() {
        for (int from = 0; from < 8; from++) {
            for (int to = from + 1; to <= 8; to++) {
                StackPolicyKernel x = Kernels.withTasks(20, 20, 1, 20, 20, 8);
                x.section(1, 3, from, to);
                x.start();
                x.release(1, 8);
                for (int n = 0; n <= 9; n++) {
                    due.is("p14 section " + from + " " + to + " after " + n, x.holder(3),
                        from < n && n < to && n < 8 ? 1 : NONE);
                    due.is("p15 section " + from + " " + to + " after " + n, x.systemCeiling(),
                        from < n && n < to && n < 8 ? 81 : 0);
                    x.step(1);
                }
            }
        }
    }

    private static void holderOfShortSections() {
        StackPolicyKernel x = Kernels.withTasks(20, 20, 6);
        x.section(0, 0, 1, 2);
        x.section(0, 1, 1, 3);
        x.section(0, 1, 3, 5);
        x.start();
        x.release(0, 6);
        int[] second = {NONE, NONE, 0, NONE, 0, NONE, NONE};
        for (int n = 0; n <= 6; n++) {
            due.is("p14 one tick, after " + n, x.holder(0), NONE);
            due.is("p14 two ticks twice, after " + n, x.holder(1), second[n]);
            x.step(1);
        }
    }

    private static void holderOfAnEndedJob() {
        // The section is of the ticks 2 .. 6: held after 3 .. 6 ticks of a job that goes on.
        for (int amount = 1; amount <= 8; amount++) {
            StackPolicyKernel x = Kernels.withTasks(20, 20, 8);
            x.section(0, 0, 2, 7);
            x.start();
            x.release(0, amount);
            for (int n = 0; n <= amount; n++) {
                due.is("p14 amount " + amount + " after " + n, x.holder(0),
                    2 < n && n < 7 && n < amount ? 0 : NONE);
                x.step(1);
            }
            due.is("p14 ended", x.holder(0), NONE);
            x.step(19 - amount);
            x.release(0, 8);
            due.is("p14 the next job has not begun", x.holder(0), NONE);
        }
    }

    // Promise 15

    private static void systemCeilingOfNothing() {
        for (StackPolicyKernel x : new StackPolicyKernel[] {new StackPolicyKernel(), Scenes.full(),
            Scenes.emptyStarted(), Scenes.done()}) {
            due.is("p15 nothing is held", x.systemCeiling(), 0);
        }
        StackPolicyKernel x = Kernels.withTasks(20, 20, 3);
        x.section(0, 0, 0, 3);
        x.start();
        x.release(0, 3);
        due.is("p15 before its first tick", x.systemCeiling(), 0);
        x.step(1);
        due.is("p15 after its first tick", x.systemCeiling(), 81);
        x.step(1);
        due.is("p15 before its last tick", x.systemCeiling(), 81);
        x.step(1);
        due.is("p15 after its last tick", x.systemCeiling(), 0);
    }

    private static void systemCeilingGreatest() {
        // Job 2 holds a ceiling of 51, and on top of it job 0 one of 89.
        StackPolicyKernel x = Scenes.running();
        due.is("p15 two are held", x.systemCeiling(), 89);
        x.step(1);
        due.is("p15 resource 0 is free", x.holder(0), NONE);
        due.is("p15 one is held", x.systemCeiling(), 51);
        x.step(200);
        due.is("p15 none is held", x.systemCeiling(), 0);
    }

    private static void systemCeilingLevels() {
        for (int span = 2; span <= 100; span++) {
            StackPolicyKernel x = Kernels.withTasks(100, span, 2);
            x.section(0, 0, 0, 2);
            x.start();
            x.release(0, 2);
            x.step(1);
            due.is("p15 of span " + span, x.systemCeiling(), 101 - span);
        }
        StackPolicyKernel x = Kernels.withTasks(100, 100, 2, 1, 1, 1);
        x.section(0, 0, 0, 2);
        x.section(1, 0, 0, 1);
        x.start();
        x.release(0, 2);
        x.step(1);
        due.is("p15 the greatest there is", x.systemCeiling(), 100);
    }

    // Promise 16

    private static void jobTasks() {
        StackPolicyKernel x = Kernels.withTasks(20, 20, 2, 20, 20, 2, 20, 20, 2);
        for (int task : Edges.sweep(-7, 8)) {
            due.is("p16 not started, task " + task, x.job(task, 0), NONE);
        }
        x.start();
        x.release(1, 2);
        for (int task : Edges.sweep(-7, 8)) {
            for (int k = 0; k < 4; k++) {
                boolean there = task == 1;
                int[] figures = {2, 20, 0, 0};
                due.is("p16 task " + task + " " + k, x.job(task, k), there ? figures[k] : NONE);
            }
        }
    }

    private static void jobFigures() {
        StackPolicyKernel pending = startedTask(20, 15, 4);
        pending.release(0, 3);
        StackPolicyKernel ended = startedTask(20, 15, 4);
        ended.release(0, 3);
        ended.step(3);
        for (int k : Edges.sweep(-9, 9)) {
            boolean right = k >= 0 && k <= 3;
            due.is("p16 figure " + k, pending.job(0, k), !right ? NONE : k == 0 ? 3 : k == 1 ? 15 : 0);
            due.is("p16 figure of an ended job " + k, ended.job(0, k),
                !right ? NONE : k == 1 ? 15 : 0);
        }
    }

    private static void jobToRun() {
        for (int amount : new int[] {1, 2, 100}) {
            StackPolicyKernel x = startedTask(100, 100, 100);
            x.release(0, amount);
            for (int n = 0; n < amount + 2; n++) {
                due.is("p16 of " + amount + " after " + n, x.job(0, 0), Math.max(0, amount - n));
                x.step(1);
            }
            due.is("p16 the deadline stays", x.job(0, 1), 100);
        }
    }

    private static void jobOfTheLatest() {
        // Job 0 is blocked in ticks 2 and 3 of the first round and in none of the second.
        StackPolicyKernel x = Kernels.withTasks(20, 10, 3, 50, 50, 9);
        x.section(0, 0, 0, 3);
        x.section(1, 0, 0, 4);
        x.start();
        x.release(1, 9);
        x.step(2);
        x.release(0, 3);
        x.step(20);
        int[] first = {0, 12, 1, 2};
        for (int k = 0; k < 4; k++) {
            due.is("p16 the first, long ended, " + k, x.job(0, k), first[k]);
        }
        x.release(0, 2);
        int[] second = {2, 32, 0, 0};
        for (int k = 0; k < 4; k++) {
            due.is("p16 the second " + k, x.job(0, k), second[k]);
        }
        due.is("p16 refused", x.release(0, 1), StackPolicyKernel.BUSY);
        due.is("p16 the second stays", x.job(0, 0), 2);
    }

    // Promise 17

    private static void missesTasks() {
        for (Supplier<StackPolicyKernel> scene : allScenes()) {
            StackPolicyKernel x = scene.get();
            int tasks = 0;
            while (tasks < 7 && x.worst(tasks) != NONE) {
                tasks++;
            }
            for (int task : Edges.sweep(-7, 9)) {
                boolean there = task >= 0 && task < tasks;
                due.is("p17 task " + task + " of " + tasks, x.misses(task) == NONE ? 0 : 1,
                    there ? 1 : 0);
            }
        }
    }

    /** A job of so many ticks and a span of 5, before which another runs for 2 ticks. */
    private static StackPolicyKernel waitingForTwo(int amount) {
        StackPolicyKernel x = Kernels.withTasks(9, 5, 5, 9, 2, 2);
        x.start();
        x.release(0, amount);
        x.release(1, 2);
        return x;
    }

    private static void missesAtTheDeadline() {
        for (int amount = 1; amount <= 5; amount++) {
            StackPolicyKernel x = waitingForTwo(amount);
            for (int t = 0; t <= 9; t++) {
                boolean missed = t >= 5 && amount > 3;
                due.is("p17 amount " + amount + " at " + t, x.misses(0), missed ? 1 : 0);
                due.is("p17 it goes on", x.job(0, 0), Math.min(amount, Math.max(0, amount + 2 - t)));
                due.is("p17 the other does not miss", x.misses(1), 0);
                x.step(1);
            }
        }
    }

    private static void missesOnceEach() {
        StackPolicyKernel x = waitingForTwo(4);
        for (int n = 1; n <= 5; n++) {
            x.step(9);
            due.is("p17 after round " + n, x.misses(0), n);
            x.release(0, 4);
            x.release(1, 2);
        }
        // Job 1 waits for 99 ticks, long past its deadline, for what job 0 holds.
        StackPolicyKernel late = Kernels.withTasks(100, 100, 100, 1, 1, 1);
        late.section(0, 0, 0, 100);
        late.section(1, 0, 0, 1);
        late.start();
        late.release(0, 100);
        late.step(1);
        late.release(1, 1);
        for (int t = 1; t <= 110; t++) {
            due.is("p17 pending for long, at " + t, late.misses(1), t >= 2 ? 1 : 0);
            late.step(1);
        }
        due.is("p17 its end", late.worst(1), 100);
    }

    private static void missesTogether() {
        StackPolicyKernel x = Kernels.withTasks(20, 6, 4, 20, 6, 4, 20, 6, 4, 20, 6, 4, 20, 6, 4,
            20, 6, 6);
        x.start();
        for (int i = 0; i < 6; i++) {
            x.release(i, 4);
        }
        x.step(5);
        for (int i = 0; i < 6; i++) {
            due.is("p17 a tick before, task " + i, x.misses(i), 0);
        }
        x.step(1);
        for (int i = 0; i < 6; i++) {
            due.is("p17 at the deadline, task " + i, x.misses(i), i == 0 ? 0 : 1);
        }
        x.step(200);
        for (int i = 0; i < 6; i++) {
            due.is("p17 much later, task " + i, x.misses(i), i == 0 ? 0 : 1);
        }
    }

    // Promise 18

    private static void worstTasks() {
        StackPolicyKernel x = Kernels.withTasks(20, 20, 2, 20, 20, 2, 20, 20, 2);
        for (int task : Edges.sweep(-7, 9)) {
            due.is("p18 task " + task, x.worst(task), task >= 0 && task <= 2 ? 0 : NONE);
        }
        x.start();
        x.release(2, 2);
        x.step(2);
        for (int task : Edges.sweep(-7, 9)) {
            due.is("p18 later, task " + task, x.worst(task),
                task == 2 ? 2 : task == 0 || task == 1 ? 0 : NONE);
        }
    }

    private static void worstOfNone() {
        StackPolicyKernel x = startedTask(20, 20, 3);
        due.is("p18 none released", x.worst(0), 0);
        x.release(0, 3);
        due.is("p18 released", x.worst(0), 0);
        x.step(2);
        due.is("p18 a tick before its end", x.worst(0), 0);
        x.step(1);
        due.is("p18 at its end", x.worst(0), 3);
        x.step(1);
        due.is("p18 after its end", x.worst(0), 3);
        StackPolicyKernel y = startedTask(1, 1, 1);
        y.step(50);
        y.release(0, 1);
        y.step(1);
        due.is("p18 the least there is", y.worst(0), 1);
    }

    private static void worstIsTheGreatest() {
        StackPolicyKernel x = startedTask(10, 10, 9);
        int[] amounts = {4, 5, 4, 5, 3, 9, 1};
        int[] greatest = {4, 5, 5, 5, 5, 9, 9};
        for (int i = 0; i < amounts.length; i++) {
            x.release(0, amounts[i]);
            x.step(10);
            due.is("p18 after job " + i, x.worst(0), greatest[i]);
        }
        // Waiting counts, also beyond the deadline: task 1 ends after 6 + 6 ticks.
        StackPolicyKernel y = Kernels.withTasks(9, 7, 6, 9, 8, 6);
        y.start();
        y.release(0, 6);
        y.release(1, 6);
        y.step(200);
        due.is("p18 the first", y.worst(0), 6);
        due.is("p18 with its waiting", y.worst(1), 12);
    }

    // Promise 19

    private static void serverFiguresWithoutServer() {
        StackPolicyKernel refused = Kernels.withTasks(9, 9, 9);
        refused.server(0, 9);
        for (StackPolicyKernel x : new StackPolicyKernel[] {new StackPolicyKernel(), refused,
            Scenes.emptyStarted()}) {
            for (int k : Edges.sweep(-7, 9)) {
                due.is("p19 no server, " + k, x.serverFigure(k), NONE);
            }
        }
    }

    private static void serverFiguresBeforeStart() {
        int[] figures = {0, 7, 0, 0, 0, 0};
        StackPolicyKernel x = new StackPolicyKernel();
        x.server(7, 70);
        for (int k = 0; k < 6; k++) {
            due.is("p19 before the start " + k, x.serverFigure(k), figures[k]);
        }
        due.no("p19 refused", x.submit(1));
        x.start();
        for (int k = 0; k < 6; k++) {
            due.is("p19 at the start " + k, x.serverFigure(k), figures[k]);
        }
    }

    private static void serverFigureNumbers() {
        // After 7 of 9 ticks: budgets of 3 were used up twice, two requests were finished.
        StackPolicyKernel x = new StackPolicyKernel();
        x.server(3, 10);
        x.start();
        x.submit(2);
        x.submit(3);
        x.submit(4);
        x.step(7);
        int[] figures = {30, 2, 1, 2, 2, 2};
        for (int k : Edges.sweep(-7, 12)) {
            due.is("p19 figure " + k, x.serverFigure(k), k >= 0 && k <= 5 ? figures[k] : NONE);
        }
    }

    // Promise 20

    private static void countNumbers() {
        // Job 2 in ticks 1 .. 4, the server in 5 .. 7, job 0 in 8 and 9; jobs 0 and 2 have begun.
        StackPolicyKernel x = Scenes.running();
        int[] counts = {0, 2, 0, 2};
        for (int k : Edges.sweep(-7, 9)) {
            due.is("p20 count " + k, x.count(k), k >= 0 && k <= 3 ? counts[k] : NONE);
        }
    }

    private static void countIdle() {
        StackPolicyKernel x = startedTask(20, 20, 3);
        due.is("p20 no tick", x.count(0), 0);
        x.step(1);
        due.is("p20 an idle tick", x.count(0), 1);
        x.release(0, 3);
        x.step(3);
        due.is("p20 no idle tick", x.count(0), 1);
        x.step(1);
        due.is("p20 another idle tick", x.count(0), 2);
        x.step(200);
        due.is("p20 many", x.count(0), 202);
    }

    private static void countChangesFromTheSecondTick() {
        StackPolicyKernel idleFirst = startedTask(20, 20, 2);
        idleFirst.step(1);
        due.is("p20 a first idle tick", idleFirst.count(1), 0);
        idleFirst.release(0, 2);
        idleFirst.step(1);
        due.is("p20 idle, job", idleFirst.count(1), 1);
        idleFirst.step(1);
        due.is("p20 idle, job, job", idleFirst.count(1), 1);
        idleFirst.step(1);
        due.is("p20 and idle again", idleFirst.count(1), 2);
        StackPolicyKernel jobFirst = startedTask(20, 20, 1);
        jobFirst.release(0, 1);
        jobFirst.step(1);
        due.is("p20 a first tick of a job", jobFirst.count(1), 0);
        jobFirst.step(1);
        due.is("p20 job, idle", jobFirst.count(1), 1);
        // Jobs of one task one after the other have the same code, round the ring of 64 too.
        StackPolicyKernel same = startedTask(1, 1, 1);
        for (int t = 0; t < 130; t++) {
            same.release(0, 1);
            same.step(1);
        }
        due.is("p20 always the same code", same.count(1), 0);
        same.step(1);
        due.is("p20 then another", same.count(1), 1);
    }

    private static void countEnded() {
        StackPolicyKernel x = startedTask(5, 5, 2);
        for (int n = 0; n < 5; n++) {
            due.is("p20 ended", x.count(2), n);
            x.release(0, 2);
            due.is("p20 released", x.count(2), n);
            x.step(1);
            due.is("p20 half done", x.count(2), n);
            x.step(1);
            due.is("p20 done", x.count(2), n + 1);
            x.step(3);
        }
        StackPolicyKernel server = new StackPolicyKernel();
        server.server(1, 5);
        server.start();
        server.submit(1);
        server.step(1);
        due.is("p20 a request is no job", server.count(2), 0);
    }

    private static void countBegun() {
        StackPolicyKernel x = Kernels.withTasks(99, 30, 3, 99, 20, 3, 99, 10, 3);
        x.start();
        int begun = 0;
        for (int i = 0; i < 3; i++) {
            x.release(i, 3);
            due.is("p20 released, not begun", x.count(3), begun);
            x.step(1);
            begun++;
            due.is("p20 begun", x.count(3), begun);
        }
        for (int i = 2; i >= 0; i--) {
            x.step(1);
            due.is("p20 a tick before an end", x.count(3), begun);
            x.step(1);
            begun--;
            due.is("p20 ended", x.count(3), begun);
        }
    }
}
