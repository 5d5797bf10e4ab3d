import java.util.ArrayList;
import java.util.List;
import java.util.function.Predicate;
import java.util.function.Supplier;
import java.util.function.ToIntFunction;

/** Calls that must be refused: the answer is as due, and nothing changes, now or later. */
final class Refusals {
    private final Due due;
    private final Supplier<StackPolicyKernel> scene;

    Refusals(Due due, Supplier<StackPolicyKernel> scene) {
        this.due = due;
        this.scene = scene;
    }

    void is(String what, ToIntFunction<StackPolicyKernel> call, int want) {
        StackPolicyKernel x = scene.get();
        State before = State.of(x);
        due.is(what, call.applyAsInt(x), want);
        String changes = State.of(x).changesSince(before);
        due.yes(what + " changed" + changes, changes.isEmpty());

        // What no call shows at once (a period, a section, a release) shows in what comes later.
        StackPolicyKernel refused = scene.get();
        call.applyAsInt(refused);
        StackPolicyKernel twin = scene.get();
        boolean alike = goOn(refused).equals(goOn(twin));
        due.yes(what + " changed what comes later", alike);
    }

    void no(String what, Predicate<StackPolicyKernel> call) {
        is(what, x -> call.test(x) ? 1 : 0, 0);
    }

    void none(String what, ToIntFunction<StackPolicyKernel> call) {
        is(what, call, StackPolicyKernel.NONE);
    }

    /** The answers of 240 calls that make, start, release, submit and step. */
    private static List<Integer> goOn(StackPolicyKernel x) {
        List<Integer> answers = new ArrayList<>();
        for (int i = 0; i < 6; i++) {
            answers.add(x.task(30 + i, 20 + i, 6));
            for (int r = 0; r < 4; r++) {
                answers.add(x.section(i, r, r, r + 2) ? 1 : 0);
            }
        }
        answers.add(x.start() ? 1 : 0);
        answers.add(x.submit(3) ? 1 : 0);
        for (int i = 0; i < 6; i++) {
            answers.add(x.release(i, 8));
            answers.add(x.release(i, 5));
        }
        for (int t = 0; t < 28; t++) {
            answers.add(x.step(1));
            answers.add(x.release(t % 6, 1));
            answers.add(x.holder(t % 4));
            answers.add(x.ran(0));
            answers.add(x.queued(0));
            answers.add(x.systemCeiling());
            answers.add(x.serverFigure(t % 6));
        }
        return answers;
    }
}
