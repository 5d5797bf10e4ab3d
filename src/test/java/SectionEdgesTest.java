import java.util.function.Supplier;

/** Promise 3 at its boundaries: which sections a task takes. */
public final class SectionEdgesTest {
    private static final Due due = new Due();
    private static final int[] IN_TEN = {Integer.MIN_VALUE, Integer.MIN_VALUE + 1, -10, -1, 0, 1, 4,
        5, 6, 9, 10, 11, 12, Integer.MAX_VALUE - 1, Integer.MAX_VALUE};
    private static final Refusals onNew = new Refusals(due, StackPolicyKernel::new);
    private static final Refusals onMade = new Refusals(due, Scenes::made);
    private static final Refusals onFull = new Refusals(due, Scenes::full);

    public static void main(String[] args) {
        sectionNeedsATask();
        sectionResources();
        sectionFromAtLeastZero();
        sectionFromBelowTo();
        sectionToAtMostCost();
        sectionOfAnyTicks();
        sectionsAtMostFour();
        sectionsOfEachTaskFour();
        sectionRefusedTakesNoPlace();
        sectionsApartTouchAtMost();
        sectionsWithinAndAround();
        sectionsOfOneResourceApart();
        sectionPairs();
        sectionAgreesWithAll();
        sectionRefusedChangesNothing();
        sectionNotWhenStarted();
        due.end();
    }

    private static void sectionNeedsATask() {
        for (int task : Edges.sweep(-7, 8)) {
            due.is("p3 without tasks " + task,
                new StackPolicyKernel().section(task, 0, 0, 1) ? 1 : 0, 0);
            due.is("p3 of three tasks " + task, Scenes.made().section(task, 3, 5, 6) ? 1 : 0,
                task >= 0 && task <= 2 ? 1 : 0);
            if (task < 0 || task > 2) {
                onMade.no("p3 no task " + task, x -> x.section(task, 3, 5, 6));
                onNew.no("p3 no task at all " + task, x -> x.section(task, 3, 5, 6));
            }
        }
        StackPolicyKernel six = Kernels.withTasks(9, 9, 9, 9, 9, 9, 9, 9, 9, 9, 9, 9, 9, 9, 9, 9, 9, 9);
        due.yes("p3 of the sixth", six.section(5, 0, 0, 1));
        due.no("p3 of a seventh", six.section(6, 0, 0, 1));
    }

    private static void sectionResources() {
        for (int r : Edges.sweep(-5, 8)) {
            boolean right = 0 <= r && r <= 3;
            due.is("p3 resource " + r, Scenes.made().section(0, r, 5, 6) ? 1 : 0, right ? 1 : 0);
            if (!right) {
                onMade.no("p3 resource refused " + r, x -> x.section(0, r, 5, 6));
            }
        }
    }

    private static boolean sectionInTen(int from, int to) {
        return Kernels.withTasks(20, 15, 10).section(0, 0, from, to);
    }

    private static void sectionFromAtLeastZero() {
        due.no("p3 from -1", sectionInTen(-1, 4));
        due.yes("p3 from 0", sectionInTen(0, 4));
        due.yes("p3 from 1", sectionInTen(1, 4));
        due.no("p3 from -1 to 0", sectionInTen(-1, 0));
    }

    private static void sectionFromBelowTo() {
        due.no("p3 from above to", sectionInTen(5, 4));
        due.no("p3 from at to", sectionInTen(4, 4));
        due.yes("p3 from just below to", sectionInTen(3, 4));
        due.no("p3 from 0 to 0", sectionInTen(0, 0));
        due.no("p3 from the cost to the cost", sectionInTen(10, 10));
    }

    private static void sectionToAtMostCost() {
        due.yes("p3 to below the cost", sectionInTen(2, 9));
        due.yes("p3 to at the cost", sectionInTen(2, 10));
        due.no("p3 to above the cost", sectionInTen(2, 11));
        due.no("p3 to at the span", sectionInTen(2, 15));
        due.yes("p3 the last tick", sectionInTen(9, 10));
        due.no("p3 behind the last tick", sectionInTen(10, 11));
        due.yes("p3 all ticks", sectionInTen(0, 10));
        due.yes("p3 a hundred ticks", Kernels.withTasks(100, 100, 100).section(0, 0, 0, 100));
        due.no("p3 101 ticks", Kernels.withTasks(100, 100, 100).section(0, 0, 0, 101));
        due.yes("p3 a job of one tick", Kernels.withTasks(1, 1, 1).section(0, 0, 0, 1));
        due.no("p3 two ticks of one", Kernels.withTasks(1, 1, 1).section(0, 0, 0, 2));
    }

    private static void sectionOfAnyTicks() {
        Refusals onTen = new Refusals(due, () -> Kernels.withTasks(20, 15, 10));
        for (int from : IN_TEN) {
            for (int to : IN_TEN) {
                if (0 <= from && from < to && to <= 10) {
                    due.yes("p3 ticks " + from + " " + to, sectionInTen(from, to));
                } else {
                    onTen.no("p3 ticks " + from + " " + to, x -> x.section(0, 0, from, to));
                }
            }
        }
    }

    private static void sectionsAtMostFour() {
        StackPolicyKernel x = Kernels.withTasks(20, 20, 10);
        due.yes("p3 first", x.section(0, 0, 0, 10));
        due.yes("p3 second", x.section(0, 1, 0, 10));
        due.yes("p3 third", x.section(0, 2, 0, 5));
        due.yes("p3 fourth", x.section(0, 2, 5, 10));
        due.no("p3 fifth", x.section(0, 3, 0, 10));
        due.no("p3 sixth", x.section(0, 3, 0, 1));
        due.is("p3 it is not there", x.ceiling(3), 0);
        for (int i = 0; i < 6; i++) {
            int task = i;
            onFull.no("p3 a fifth of task " + i, y -> y.section(task, 0, 2, 3));
        }
    }

    private static void sectionsOfEachTaskFour() {
        StackPolicyKernel x = Kernels.withTasks(9, 9, 9, 9, 9, 9, 9, 9, 9, 9, 9, 9, 9, 9, 9, 9, 9, 9);
        for (int n = 0; n < 5; n++) {
            for (int i = 0; i < 6; i++) {
                due.is("p3 section " + n + " of " + i, x.section(i, i % 4, n, n + 1) ? 1 : 0,
                    n < 4 ? 1 : 0);
            }
        }
    }

    private static void sectionRefusedTakesNoPlace() {
        StackPolicyKernel x = Kernels.withTasks(20, 20, 10);
        for (int n = 0; n < 4; n++) {
            due.no("p3 refused before " + n, x.section(0, 0, 9, 11));
            due.yes("p3 place " + n, x.section(0, 0, 2 * n, 2 * n + 2));
            due.no("p3 refused after " + n, x.section(0, 0, 2 * n, 2 * n + 2));
        }
    }

    private static boolean beside(int r, int from, int to) {
        StackPolicyKernel x = Kernels.withTasks(20, 20, 10);
        x.section(0, 0, 3, 6);
        return x.section(0, r, from, to);
    }

    private static void sectionsApartTouchAtMost() {
        due.yes("p3 ends before the beginning", beside(1, 0, 2));
        due.yes("p3 ends at the beginning", beside(1, 0, 3));
        due.no("p3 ends behind the beginning", beside(1, 0, 4));
        due.no("p3 begins before the end", beside(1, 5, 9));
        due.yes("p3 begins at the end", beside(1, 6, 9));
        due.yes("p3 begins behind the end", beside(1, 7, 9));
    }

    private static void sectionsWithinAndAround() {
        due.yes("p3 within, equal ends", beside(1, 3, 6));
        due.yes("p3 within, later beginning", beside(1, 4, 6));
        due.yes("p3 within, earlier end", beside(1, 3, 5));
        due.yes("p3 around, earlier beginning", beside(1, 2, 6));
        due.yes("p3 around, later end", beside(1, 3, 7));
        due.yes("p3 around, both", beside(1, 2, 7));
        due.no("p3 earlier beginning and earlier end", beside(1, 2, 5));
        due.no("p3 later beginning and later end", beside(1, 4, 7));
    }

    private static void sectionsOfOneResourceApart() {
        due.yes("p3 same resource ends before", beside(0, 0, 2));
        due.yes("p3 same resource ends at", beside(0, 0, 3));
        due.no("p3 same resource ends behind", beside(0, 0, 4));
        due.no("p3 same resource begins before the end", beside(0, 5, 6));
        due.yes("p3 same resource begins at the end", beside(0, 6, 9));
        due.no("p3 same resource, the same ticks", beside(0, 3, 6));
        due.no("p3 same resource around", beside(0, 0, 10));
        due.no("p3 same resource within", beside(0, 4, 5));
    }

    /** As bits, the ticks of a section. */
    private static int ticks(int from, int to) {
        return (1 << to) - (1 << from);
    }

    private static boolean mayStandTogether(int one, int other, boolean sameResource) {
        boolean apart = (one & other) == 0;
        boolean nested = (one & other) == one || (one & other) == other;
        return apart || nested && !sameResource;
    }

    private static void sectionPairs() {
        for (int f = 0; f < 6; f++) {
            for (int t = f + 1; t <= 6; t++) {
                for (int from = 0; from < 6; from++) {
                    for (int to = from + 1; to <= 6; to++) {
                        sectionPair(f, t, from, to);
                    }
                }
            }
        }
    }

    private static void sectionPair(int f, int t, int from, int to) {
        for (int r = 0; r < 4; r++) {
            StackPolicyKernel x = Kernels.withTasks(20, 20, 6);
            due.yes("p3 the first", x.section(0, 2, f, t));
            boolean may = mayStandTogether(ticks(f, t), ticks(from, to), r == 2);
            due.is("p3 beside " + f + " " + t + ": " + r + " " + from + " " + to,
                x.section(0, r, from, to) ? 1 : 0, may ? 1 : 0);
        }
    }

    private static void sectionAgreesWithAll() {
        int[][] there = {{0, 0, 8}, {1, 0, 4}, {2, 4, 8}};
        for (int leftOut = 0; leftOut < 3; leftOut++) {
            StackPolicyKernel x = Kernels.withTasks(20, 20, 10);
            for (int i = 0; i < 3; i++) {
                if (i != leftOut) {
                    due.yes("p3 there", x.section(0, there[i][0], there[i][1], there[i][2]));
                }
            }
            due.is("p3 across the outer end", x.section(0, 3, 7, 9) ? 1 : 0, 0);
            due.is("p3 across the middle", x.section(0, 3, 3, 5) ? 1 : 0, 0);
            due.is("p3 of resource 1", x.section(0, 1, 1, 2) ? 1 : 0, leftOut == 1 ? 1 : 0);
            due.is("p3 of resource 2", x.section(0, 2, 6, 7) ? 1 : 0, leftOut == 2 ? 1 : 0);
        }
    }

    private static void sectionRefusedChangesNothing() {
        // Task 1 of the scene has (0, 2, 6) and (1, 3, 5), task 2 has (2, 0, 9) and (1, 1, 4).
        onMade.no("p3 across an end", x -> x.section(1, 3, 5, 7));
        onMade.no("p3 across a beginning", x -> x.section(1, 3, 1, 3));
        onMade.no("p3 across the inner end", x -> x.section(1, 3, 4, 6));
        onMade.no("p3 same resource within", x -> x.section(1, 0, 4, 5));
        onMade.no("p3 same resource around", x -> x.section(1, 1, 2, 6));
        onMade.no("p3 above the cost", x -> x.section(0, 3, 5, 7));
        onMade.no("p3 same ticks, same resource", x -> x.section(2, 2, 0, 9));
        for (int far : Edges.FAR) {
            onMade.no("p3 from " + far, x -> x.section(0, 3, far, 6));
            onMade.no("p3 to " + far, x -> x.section(0, 3, 5, far));
            onMade.no("p3 all " + far, x -> x.section(far, far, far, far));
        }
    }

    private static void sectionNotWhenStarted() {
        for (Supplier<StackPolicyKernel> scene : Scenes.started()) {
            for (int i = -1; i < 7; i++) {
                int task = i;
                new Refusals(due, scene).no("p3 when started", x -> x.section(task, 3, 5, 6));
            }
        }
        StackPolicyKernel x = Kernels.withTasks(20, 20, 6);
        due.yes("p3 just before the start", x.section(0, 1, 0, 1));
        x.start();
        due.no("p3 just after the start", x.section(0, 2, 0, 1));
    }
}
