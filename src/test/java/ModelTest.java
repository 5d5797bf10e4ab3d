/** Long mixed runs of calls, answered alike by the class and by the plain model. */
public final class ModelTest {
    private static final int RUNS = 1500;
    private static final int CALLS = 500;
    private static final Due due = new Due();

    private final StackPolicyKernel x = new StackPolicyKernel();
    private final PlainModel model = new PlainModel();
    private final int run;
    private long seed;
    private static int blocked = 0;
    private static int missed = 0;

    private ModelTest(int run) {
        this.run = run;
        this.seed = 88172645463325252L + 7919L * run;
    }

    public static void main(String[] args) {
        for (int run = 0; run < RUNS && !due.anyWrong(); run++) {
            new ModelTest(run).play();
        }
        due.yes("runs with blocked jobs: " + blocked, blocked > RUNS / 4);
        due.yes("runs with misses: " + missed, missed > RUNS / 4);
        due.end();
    }

    /** A number from low to high, the same in every run of the test. */
    private int pick(int low, int high) {
        seed = seed * 6364136223846793005L + 1442695040888963407L;
        return low + (int) ((seed >>> 33) % (high - low + 1));
    }

    private int far() {
        return Edges.FAR[pick(0, Edges.FAR.length - 1)];
    }

    private void play() {
        int making = run % 3 == 0 ? makeAnything() : makeSharingTasks();
        if (pick(0, 9) > 0) {
            same("start", x.start() ? 1 : 0, model.start() ? 1 : 0);
        }
        boolean wasBlocked = false;
        boolean hasMissed = false;
        for (int i = making + 1; i < CALLS; i++) {
            if (pick(0, 2) > 0) {
                doSomething();
            } else {
                ask();
            }
            int task = pick(0, 5);
            wasBlocked = wasBlocked || model.job(task, 3) > 0;
            hasMissed = hasMissed || model.misses(task) > 0;
        }
        blocked += wasBlocked ? 1 : 0;
        missed += hasMissed ? 1 : 0;
    }

    private void same(String call, int got, int want) {
        due.is("run " + run + ": " + call, got, want);
    }

    private int makeAnything() {
        int calls = pick(0, 60);
        for (int i = 0; i < calls; i++) {
            makeSomething();
        }
        return calls;
    }

    private void makeSomething() {
        int kind = pick(0, 12);
        if (kind < 4) {
            int span = pick(0, 9) == 0 ? pick(-1, 102) : pick(3, 40);
            int period = span + pick(0, 9) - (pick(0, 15) == 0 ? 5 : 0);
            int cost = pick(0, 9) == 0 ? pick(-1, 101) : pick(1, Math.max(1, span / 2));
            same("task " + period + " " + span + " " + cost,
                x.task(period, span, cost), model.task(period, span, cost));
        } else if (kind < 11) {
            int task = pick(-1, 6);
            int r = pick(0, 9) == 0 ? pick(-1, 4) : pick(0, 3);
            int from = pick(-1, 12);
            int to = from + pick(0, 9);
            same("section " + task + " " + r + " " + from + " " + to,
                x.section(task, r, from, to) ? 1 : 0, model.section(task, r, from, to) ? 1 : 0);
        } else if (kind == 11) {
            int period = pick(0, 30);
            int size = pick(0, 1 + period / 2);
            same("server " + size + " " + period,
                x.server(size, period) ? 1 : 0, model.server(size, period) ? 1 : 0);
        } else {
            ask();
        }
    }

    /** Some tasks of very unlike spans with many sections, so that jobs block one another. */
    private int makeSharingTasks() {
        int tasks = pick(2, 6);
        int calls = tasks * 9 + 1;
        for (int i = 0; i < tasks; i++) {
            int span = pick(0, 1) == 0 ? pick(5, 30) : pick(50, 100);
            int cost = Math.max(2, span / pick(2, 7));
            int period = Math.min(100, span + pick(0, 5));
            same("task", x.task(period, span, cost), model.task(period, span, cost));
            for (int j = 0; j < 8; j++) {
                int from = pick(0, cost - 2);
                int to = pick(from + 1, cost);
                int r = pick(0, 3);
                same("section", x.section(i, r, from, to) ? 1 : 0,
                    model.section(i, r, from, to) ? 1 : 0);
            }
        }
        int size = pick(0, 3);
        int period = pick(5, 40);
        same("server", x.server(size, period) ? 1 : 0, model.server(size, period) ? 1 : 0);
        return calls;
    }

    private void doSomething() {
        int kind = pick(0, 19);
        if (kind < 9) {
            int task = pick(0, 19) == 0 ? pick(-1, 6) : pick(0, Math.max(0, model.makers.size() - 1));
            int cost = task >= 0 && task < model.makers.size() ? model.makers.get(task).cost : 3;
            int amount = pick(0, 9) == 0 ? pick(-1, cost + 1) : pick((cost + 1) / 2, cost);
            amount = pick(0, 99) == 0 ? far() : amount;
            same("release " + task + " " + amount,
                x.release(task, amount), model.release(task, amount));
        } else if (kind < 12) {
            int amount = pick(0, 9) == 0 ? pick(-1, 52) : pick(1, 5);
            same("submit " + amount, x.submit(amount) ? 1 : 0, model.submit(amount) ? 1 : 0);
        } else if (kind < 18) {
            int n = pick(0, 29) == 0 ? pick(-1, 30) : pick(1, 3);
            same("step " + n, x.step(n), model.step(n));
        } else if (kind == 18) {
            int n = pick(0, 1) == 0 ? far() : pick(201, 203);
            same("step " + n, x.step(n), model.step(n));
        } else if (pick(0, 5) == 0) {
            same("start", x.start() ? 1 : 0, model.start() ? 1 : 0);
        } else {
            makeSomething();
        }
    }

    private void ask() {
        int kind = pick(0, 11);
        int k = pick(0, 19) == 0 ? far() : pick(-1, 6);
        int task = pick(0, 19) == 0 ? far() : pick(-1, 6);
        switch (kind) {
            case 0: same("verdict", x.verdict(), model.verdict()); break;
            case 1: same("ceiling " + k, x.ceiling(k), model.ceiling(k)); break;
            case 2: same("time", x.time(), model.time()); break;
            case 3:
                int back = pick(-1, 65);
                same("ran " + back, x.ran(back), model.ran(back));
                break;
            case 4: same("queued " + k, x.queued(k), model.queued(k)); break;
            case 5: same("holder " + k, x.holder(k), model.holder(k)); break;
            case 6: same("systemCeiling", x.systemCeiling(), model.systemCeiling()); break;
            case 7: same("job " + task + " " + k, x.job(task, k), model.job(task, k)); break;
            case 8: same("misses " + task, x.misses(task), model.misses(task)); break;
            case 9: same("worst " + task, x.worst(task), model.worst(task)); break;
            case 10: same("serverFigure " + k, x.serverFigure(k), model.serverFigure(k)); break;
            default: same("count " + k, x.count(k), model.count(k)); break;
        }
    }
}
