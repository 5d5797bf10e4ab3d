import java.util.ArrayList;
import java.util.List;

/** All that a kernel answers of its state, by 136 calls that must change nothing. */
final class State {
    private final List<String> calls = new ArrayList<>();
    private final List<Integer> answers = new ArrayList<>();

    private State() {
    }

    static State of(StackPolicyKernel x) {
        State s = new State();
        s.add("time", x.time());
        s.add("verdict", x.verdict());
        s.add("systemCeiling", x.systemCeiling());
        for (int r = 0; r < 4; r++) {
            s.add("ceiling " + r, x.ceiling(r));
            s.add("holder " + r, x.holder(r));
            s.add("count " + r, x.count(r));
        }
        for (int k = 0; k < 65; k++) {
            s.add("ran " + k, x.ran(k));
        }
        for (int k = 0; k < 8; k++) {
            s.add("queued " + k, x.queued(k));
        }
        for (int i = 0; i < 7; i++) {
            s.add("misses " + i, x.misses(i));
            s.add("worst " + i, x.worst(i));
            for (int k = 0; k < 4; k++) {
                s.add("job " + i + " " + k, x.job(i, k));
            }
        }
        for (int k = 0; k < 6; k++) {
            s.add("serverFigure " + k, x.serverFigure(k));
        }
        return s;
    }

    private void add(String call, int answer) {
        calls.add(call);
        answers.add(answer);
    }

    /** The calls that were answered otherwise before, with both answers; empty when none was. */
    String changesSince(State before) {
        StringBuilder changes = new StringBuilder();
        for (int i = 0; i < calls.size(); i++) {
            if (!answers.get(i).equals(before.answers.get(i))) {
                changes.append(' ').append(calls.get(i)).append(": ")
                    .append(before.answers.get(i)).append(" -> ").append(answers.get(i));
            }
        }
        return changes.toString();
    }
}
