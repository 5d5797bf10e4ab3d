import java.util.List;
import java.util.function.Supplier;

/** Kernels in states that the tests start from; each call makes a new one. */
final class Scenes {
    private Scenes() {
    }

    /** Nothing made yet, but started. */
    static StackPolicyKernel emptyStarted() {
        StackPolicyKernel x = new StackPolicyKernel();
        x.start();
        return x;
    }

    /** Three tasks that share resources, and a server; not started. */
    static StackPolicyKernel made() {
        StackPolicyKernel x = Kernels.withTasks(20, 12, 6, 30, 30, 8, 60, 50, 9);
        x.section(0, 0, 1, 3);
        x.section(1, 0, 2, 6);
        x.section(1, 1, 3, 5);
        x.section(2, 2, 0, 9);
        x.section(2, 1, 1, 4);
        x.server(3, 10);
        return x;
    }

    /** Six tasks with four sections each, and a server; not started. */
    static StackPolicyKernel full() {
        StackPolicyKernel x = new StackPolicyKernel();
        for (int i = 0; i < 6; i++) {
            x.task(50 + i, 40 + i, 8);
            for (int r = 0; r < 4; r++) {
                x.section(i, r, 2 * r, 2 * r + 2);
            }
        }
        x.server(2, 25);
        return x;
    }

    /**
     * At time 9: job 0 holds resource 0 and job 2 resource 2, job 1 was blocked in one tick, the
     * server has used its budget up once and has one tick to do.
     */
    static StackPolicyKernel running() {
        StackPolicyKernel x = made();
        x.start();
        x.release(2, 9);
        x.step(3);
        x.release(1, 8);
        x.step(1);
        x.submit(4);
        x.release(0, 5);
        x.step(5);
        return x;
    }

    /** Six pending jobs, of which one has begun and holds a resource, and eight requests. */
    static StackPolicyKernel crowded() {
        StackPolicyKernel x = full();
        x.start();
        x.release(5, 8);
        x.step(1);
        for (int i = 0; i < 5; i++) {
            x.release(i, 3 + i);
        }
        for (int i = 0; i < 8; i++) {
            x.submit(1 + i);
        }
        return x;
    }

    /** All is done, jobs have missed, and the time is beyond all periods. */
    static StackPolicyKernel done() {
        StackPolicyKernel x = crowded();
        x.step(200);
        return x;
    }

    static List<Supplier<StackPolicyKernel>> notStarted() {
        return List.of(StackPolicyKernel::new, Scenes::made, Scenes::full);
    }

    static List<Supplier<StackPolicyKernel>> started() {
        return List.of(Scenes::emptyStarted, Scenes::running, Scenes::crowded, Scenes::done);
    }
}
