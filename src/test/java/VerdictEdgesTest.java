import java.util.function.Supplier;

/** Promises 6 and 7 at their boundaries: the test of the tasks, and ceilings. */
public final class VerdictEdgesTest {
    private static final Due due = new Due();
    private static final int NONE = StackPolicyKernel.NONE;

    public static void main(String[] args) {
        verdictWithNothing();
        verdictAtOne();
        verdictInAnyOrderOfTasks();
        verdictAHairFromOne();
        verdictSpanAtMostItsOwn();
        verdictHoldNeedsAGreaterSpan();
        verdictHoldNeedsTheCeiling();
        verdictHoldIsOneLess();
        verdictGreatestHold();
        verdictHoldLongerThanTheSpan();
        verdictHolderOfAnyNumber();
        verdictLowestTask();
        verdictSixth();
        verdictWithAndWithoutServer();
        verdictBeforeAndAfterStart();
        ceilingResources();
        ceilingLevels();
        ceilingOfTheTasksSoFar();
        due.end();
    }

    // Promise 6

    /** Tasks of period 100 by span and cost. */
    private static StackPolicyKernel ofSpans(int... spansAndCosts) {
        StackPolicyKernel x = new StackPolicyKernel();
        for (int i = 0; i < spansAndCosts.length; i += 2) {
            x.task(100, spansAndCosts[i], spansAndCosts[i + 1]);
        }
        return x;
    }

    private static void verdictWithNothing() {
        due.is("p6 no task", new StackPolicyKernel().verdict(), NONE);
        StackPolicyKernel x = new StackPolicyKernel();
        x.server(1, 1);
        due.is("p6 a server alone", x.verdict(), NONE);
        due.is("p6 the smallest task", ofSpans(1, 1).verdict(), NONE);
        due.is("p6 the greatest task", ofSpans(100, 100).verdict(), NONE);
    }

    private static void verdictAtOne() {
        due.is("p6 49/50 + 1/100", ofSpans(50, 49, 100, 1).verdict(), NONE);
        due.is("p6 49/50 + 2/100", ofSpans(50, 49, 100, 2).verdict(), NONE);
        due.is("p6 49/50 + 3/100", ofSpans(50, 49, 100, 3).verdict(), 1);
        due.is("p6 1/3 + 1/3 + 32/99", ofSpans(3, 1, 3, 1, 99, 32).verdict(), NONE);
        due.is("p6 1/3 + 1/3 + 33/99", ofSpans(3, 1, 3, 1, 99, 33).verdict(), NONE);
        due.is("p6 1/3 + 1/3 + 34/99", ofSpans(3, 1, 3, 1, 99, 34).verdict(), 2);
        due.is("p6 six sixths", ofSpans(6, 1, 12, 2, 18, 3, 24, 4, 30, 5, 36, 6).verdict(), NONE);
        due.is("p6 more than six sixths",
            ofSpans(6, 1, 12, 2, 18, 3, 24, 4, 30, 5, 36, 7).verdict(), 5);
    }

    /** In doubles half of these sums come out above 1: 6/33 + 1/9 + 2/11 + 52/99 = 1. */
    private static void verdictInAnyOrderOfTasks() {
        int[][] parts = {{33, 6}, {9, 1}, {11, 2}, {99, 52}};
        for (int order = 0; order < 256; order++) {
            int[] place = {order & 3, order >> 2 & 3, order >> 4 & 3, order >> 6};
            boolean eachOnce = (1 << place[0] | 1 << place[1] | 1 << place[2] | 1 << place[3]) == 15;
            if (eachOnce) {
                StackPolicyKernel x = new StackPolicyKernel();
                for (int p : place) {
                    x.task(100, parts[p][0], parts[p][1]);
                }
                due.is("p6 just 1 in order " + order, x.verdict(), NONE);
            }
        }
    }

    private static void verdictAHairFromOne() {
        // Above 1 by less than 10^-12: only the task of span 99 has all these in its sum.
        StackPolicyKernel above = ofSpans(98, 10, 73, 9, 99, 20, 97, 10, 64, 2, 79, 19);
        above.server(18, 91);
        due.is("p6 a hair above 1", above.verdict(), 2);
        above.server(17, 91);
        due.is("p6 the same with less", above.verdict(), NONE);
        // Below 1 by less than 10^-11.
        StackPolicyKernel below = ofSpans(64, 10, 89, 6, 100, 20, 91, 20, 95, 17, 79, 1);
        below.server(16, 97);
        due.is("p6 a hair below 1", below.verdict(), NONE);
        below.server(17, 97);
        due.is("p6 the same with more", below.verdict(), 2);
        StackPolicyKernel most = ofSpans(100, 100, 100, 100, 100, 100, 100, 100, 100, 100, 100, 100);
        most.server(100, 100);
        due.is("p6 the greatest sum", most.verdict(), 0);
    }

    private static void verdictSpanAtMostItsOwn() {
        // Task 0 has 10/20; the other adds 15/span to it when its span is at most 20.
        due.is("p6 a span below", ofSpans(20, 10, 19, 15).verdict(), 0);
        due.is("p6 an equal span", ofSpans(20, 10, 20, 15).verdict(), 0);
        due.is("p6 a span above", ofSpans(20, 10, 21, 15).verdict(), 1);
    }

    private static StackPolicyKernel holdAgainst(int holderSpan, int ceilingSpan, int from, int to) {
        // Task 0 has 10/20 + w/20, task 1 holds, task 2 gives the ceiling by one short tick.
        StackPolicyKernel x = ofSpans(20, 10, holderSpan, 13, ceilingSpan, 1);
        x.section(1, 2, from, to);
        x.section(2, 2, 0, 1);
        return x;
    }

    private static void verdictHoldNeedsAGreaterSpan() {
        // With spans of at most 20 the cost of task 1 counts instead of its hold.
        StackPolicyKernel equal = ofSpans(20, 10, 20, 9);
        equal.section(0, 0, 0, 1);
        equal.section(1, 0, 0, 9);
        due.is("p6 an equal span holds nothing against", equal.verdict(), NONE);
        StackPolicyKernel greater = ofSpans(20, 10, 21, 13);
        greater.section(0, 0, 0, 1);
        greater.section(1, 0, 0, 13);
        due.is("p6 a greater span does", greater.verdict(), 0);
        StackPolicyKernel smaller = ofSpans(20, 10, 19, 9);
        smaller.section(0, 0, 0, 1);
        smaller.section(1, 0, 0, 9);
        due.is("p6 a smaller span does not", smaller.verdict(), NONE);
    }

    private static void verdictHoldNeedsTheCeiling() {
        // A span of 21 gives the ceiling 80, below the level 81 of task 0, but at that of task 2.
        due.is("p6 a ceiling just below the level", holdAgainst(90, 21, 0, 13).verdict(), 2);
        due.is("p6 a ceiling at the level", holdAgainst(90, 20, 0, 13).verdict(), 0);
        due.is("p6 a ceiling just above the level", holdAgainst(90, 19, 0, 13).verdict(), 0);
    }

    private static void verdictHoldIsOneLess() {
        // With the ceiling of span 20: 10/20 + 1/20 + w/20 is at most 1 up to w = 9.
        due.is("p6 w 8", holdAgainst(90, 20, 0, 9).verdict(), NONE);
        due.is("p6 w 9", holdAgainst(90, 20, 0, 10).verdict(), NONE);
        due.is("p6 w 10", holdAgainst(90, 20, 0, 11).verdict(), 0);
        due.is("p6 w 9 later", holdAgainst(90, 20, 3, 13).verdict(), NONE);
        due.is("p6 w 10 later", holdAgainst(90, 20, 2, 13).verdict(), 0);
        // A section of one tick is no hold: 20/20 + 0/20.
        StackPolicyKernel x = ofSpans(20, 20, 90, 2);
        x.section(0, 0, 0, 20);
        x.section(1, 0, 1, 2);
        due.is("p6 w 0", x.verdict(), 1);
        StackPolicyKernel y = ofSpans(20, 20, 90, 2);
        y.section(0, 0, 0, 20);
        y.section(1, 0, 0, 2);
        due.is("p6 w 1", y.verdict(), 0);
    }

    private static void verdictGreatestHold() {
        // Task 0 has 10/20 + w/20: it fails from w = 11 on. The long section is one of four.
        for (int place = 0; place < 4; place++) {
            StackPolicyKernel x = ofSpans(20, 10, 100, 30);
            for (int r = 0; r < 4; r++) {
                x.section(0, r, 0, 1);
            }
            int from = 0;
            for (int i = 0; i < 4; i++) {
                int to = from + (i == place ? 12 : 3);
                due.yes("p6 section", x.section(1, i, from, to));
                from = to;
            }
            due.is("p6 the greatest in place " + place, x.verdict(), 0);
        }
        StackPolicyKernel sum = ofSpans(20, 10, 100, 30);
        for (int r = 0; r < 4; r++) {
            sum.section(0, r, 0, 1);
            sum.section(1, r, 6 * r, 6 * r + 6);
        }
        due.is("p6 the greatest, not the sum", sum.verdict(), NONE);
    }

    private static void verdictHoldLongerThanTheSpan() {
        for (int to = 1; to <= 100; to++) {
            // Task 0 has 1/2 + (to - 1)/2, task 1 1/2 + 50/100 or more.
            StackPolicyKernel x = ofSpans(2, 1, 100, Math.max(50, to));
            x.section(0, 0, 0, 1);
            x.section(1, 0, 0, to);
            due.is("p6 a hold of " + (to - 1) + " against a span of 2", x.verdict(), to <= 2 ? NONE : 0);
        }
        StackPolicyKernel most = ofSpans(99, 99, 99, 99, 99, 99, 99, 99, 99, 99, 100, 100);
        most.server(100, 100);
        most.section(0, 0, 0, 99);
        most.section(5, 0, 0, 100);
        due.is("p6 the greatest sum with a hold", most.verdict(), 0);
    }

    private static void verdictHolderOfAnyNumber() {
        // The task of span 20 has 10/20 + w/20, the other is made before it or after it.
        for (int ticks = 10; ticks <= 12; ticks++) {
            StackPolicyKernel before = ofSpans(90, 13, 20, 10);
            before.section(0, 2, 0, ticks);
            before.section(1, 2, 0, 1);
            due.is("p6 made before, w " + (ticks - 1), before.verdict(), ticks <= 11 ? NONE : 1);
            StackPolicyKernel after = ofSpans(20, 10, 90, 13);
            after.section(1, 2, 0, ticks);
            after.section(0, 2, 0, 1);
            due.is("p6 made after, w " + (ticks - 1), after.verdict(), ticks <= 11 ? NONE : 0);
        }
    }

    private static void verdictLowestTask() {
        // 2/4, 2/4 + 3/5, and so on: all but the task of span 4 fail.
        due.is("p6 the first fails", ofSpans(5, 3, 4, 2, 6, 1, 7, 1).verdict(), 0);
        due.is("p6 the second fails", ofSpans(4, 2, 5, 3, 6, 1, 7, 1).verdict(), 1);
        due.is("p6 the third is the lowest", ofSpans(4, 2, 6, 3, 9, 1, 8, 1).verdict(), 2);
    }

    private static void verdictSixth() {
        due.is("p6 the sixth alone", ofSpans(10, 2, 10, 2, 10, 2, 10, 2, 10, 1, 90, 10).verdict(), 5);
        due.is("p6 the sixth just passes",
            ofSpans(10, 2, 10, 2, 10, 2, 10, 2, 10, 1, 90, 9).verdict(), NONE);
    }

    private static void verdictWithAndWithoutServer() {
        StackPolicyKernel x = ofSpans(100, 50);
        due.is("p6 without", x.verdict(), NONE);
        x.server(49, 100);
        due.is("p6 99/100", x.verdict(), NONE);
        x.server(50, 100);
        due.is("p6 100/100", x.verdict(), NONE);
        x.server(51, 100);
        due.is("p6 101/100", x.verdict(), 0);
        due.no("p6 a refused server", x.server(0, 100));
        due.is("p6 does not count", x.verdict(), 0);
        x.server(1, 100);
        due.is("p6 only the latest counts", x.verdict(), NONE);
        due.no("p6 a refused server", x.server(101, 100));
        due.is("p6 does not count", x.verdict(), NONE);
    }

    private static void verdictBeforeAndAfterStart() {
        for (StackPolicyKernel x : new StackPolicyKernel[] {ofSpans(4, 3, 6, 3), ofSpans(4, 3, 6, 1)}) {
            int before = x.verdict();
            x.start();
            due.is("p6 at the start", x.verdict(), before);
            x.release(0, 3);
            x.release(1, 1);
            x.step(200);
            due.is("p6 later", x.verdict(), before);
        }
    }

    // Promise 7

    private static void ceilingResources() {
        for (Supplier<StackPolicyKernel> scene : Scenes.notStarted()) {
            StackPolicyKernel x = scene.get();
            for (int r : Edges.sweep(-10, 10)) {
                due.is("p7 there is a resource " + r, x.ceiling(r) == NONE ? 0 : 1,
                    r >= 0 && r <= 3 ? 1 : 0);
            }
        }
    }

    private static void ceilingLevels() {
        for (int span = 1; span <= 100; span++) {
            StackPolicyKernel x = Kernels.withTasks(100, span, 1);
            due.is("p7 no section", x.ceiling(span % 4), 0);
            x.section(0, span % 4, 0, 1);
            due.is("p7 the level of span " + span, x.ceiling(span % 4), 101 - span);
            due.is("p7 no section with another", x.ceiling((span + 1) % 4), 0);
        }
    }

    private static void ceilingOfTheTasksSoFar() {
        StackPolicyKernel x = Kernels.withTasks(100, 50, 5, 100, 51, 5, 100, 49, 5, 100, 49, 5);
        int[] due1 = {51, 51, 52, 52};
        for (int i = 0; i < 4; i++) {
            x.section(i, 1, 0, 5);
            due.is("p7 with task " + i, x.ceiling(1), due1[i]);
        }
        due.is("p7 a further task without a section", x.task(100, 1, 1), 4);
        due.is("p7 does not count", x.ceiling(1), 52);
        x.start();
        due.is("p7 after the start", x.ceiling(1), 52);
        x.release(0, 5);
        x.step(200);
        due.is("p7 after ticks", x.ceiling(1), 52);
    }
}
