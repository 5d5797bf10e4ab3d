/** Makes kernels for the tests. */
final class Kernels {
    private Kernels() {
    }

    /** A kernel that is not started, with a task for each three numbers. */
    static StackPolicyKernel withTasks(int... periodsSpansCosts) {
        StackPolicyKernel x = new StackPolicyKernel();
        for (int i = 0; i < periodsSpansCosts.length; i += 3) {
            x.task(periodsSpansCosts[i], periodsSpansCosts[i + 1], periodsSpansCosts[i + 2]);
        }
        return x;
    }
}
