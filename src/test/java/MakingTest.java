/** Promises 1 to 7: what is made before the start, and what is known of it. */
public final class MakingTest {
    private static final Due due = new Due();
    private static final int NONE = StackPolicyKernel.NONE;
    private static final int[] FAR = {Integer.MIN_VALUE, Integer.MIN_VALUE + 1, Integer.MAX_VALUE};

    public static void main(String[] args) {
        aNewObject();
        taskEdges();
        taskCountAndStart();
        sectionEdges();
        sectionsTogether();
        sectionLimits();
        serverEdges();
        serverAgain();
        startOnce();
        verdictIsExact();
        verdictCountsSmallerSpans();
        verdictCountsTheServer();
        verdictCountsHolds();
        verdictStaysAfterStart();
        ceilings();
        due.end();
    }

    private static void aNewObject() {
        StackPolicyKernel x = new StackPolicyKernel();
        due.is("p1 time", x.time(), 0);
        due.is("p1 misses", x.misses(0), NONE);
        due.is("p1 worst", x.worst(0), NONE);
        due.is("p1 serverFigure", x.serverFigure(0), NONE);
        due.is("p1 verdict", x.verdict(), NONE);
        due.is("p1 ran", x.ran(0), NONE);
        due.is("p1 queued", x.queued(0), 0);
        due.is("p1 systemCeiling", x.systemCeiling(), 0);
        due.is("p1 job", x.job(0, 0), NONE);
        for (int k = 0; k < 4; k++) {
            due.is("p1 count " + k, x.count(k), 0);
            due.is("p1 ceiling " + k, x.ceiling(k), 0);
            due.is("p1 holder " + k, x.holder(k), NONE);
        }
        due.is("p1 step", x.step(0), NONE);
        due.is("p1 release", x.release(0, 1), StackPolicyKernel.OFF);
        due.no("p1 submit", x.submit(1));
        due.is("p1 first task", x.task(1, 1, 1), 0);
        due.yes("p1 start", x.start());
    }

    private static void taskEdges() {
        StackPolicyKernel x = new StackPolicyKernel();
        int[][] refused = {{10, 10, 0}, {10, 10, -1}, {10, 5, 6}, {9, 10, 5}, {101, 10, 5},
            {101, 101, 101}, {0, 0, 0}, {-1, -1, -1}, {10, 0, 1}, {0, 1, 1}};
        for (int[] r : refused) {
            due.is("p2 task " + r[0] + " " + r[1] + " " + r[2], x.task(r[0], r[1], r[2]), NONE);
        }
        for (int far : FAR) {
            due.is("p2 far period " + far, x.task(far, 10, 5), NONE);
            due.is("p2 far span " + far, x.task(10, far, 5), NONE);
            due.is("p2 far cost " + far, x.task(10, 10, far), NONE);
        }
        due.is("p2 refused makes none", x.misses(0), NONE);
        due.is("p2 smallest", x.task(1, 1, 1), 0);
        due.is("p2 greatest", x.task(100, 100, 100), 1);
        due.is("p2 between", x.task(100, 50, 1), 2);
        due.is("p2 without sections", x.ceiling(0), 0);
    }

    private static void taskCountAndStart() {
        StackPolicyKernel x = new StackPolicyKernel();
        for (int i = 0; i < 6; i++) {
            due.is("p2 number", x.task(10 + i, 10, 1), i);
        }
        due.is("p2 seventh", x.task(10, 10, 1), NONE);
        due.is("p2 sixth is there", x.misses(5), 0);
        due.is("p2 no seventh", x.misses(6), NONE);
        StackPolicyKernel y = new StackPolicyKernel();
        y.start();
        due.is("p2 after start", y.task(10, 10, 1), NONE);
        due.is("p2 none after start", y.misses(0), NONE);
    }

    private static void sectionEdges() {
        StackPolicyKernel x = new StackPolicyKernel();
        due.no("p3 no task yet", x.section(0, 0, 0, 1));
        x.task(20, 20, 8);
        int[][] refused = {{-1, 0, 0, 1}, {1, 0, 0, 1}, {6, 0, 0, 1}, {0, -1, 0, 1}, {0, 4, 0, 1},
            {0, 0, -1, 1}, {0, 0, 3, 3}, {0, 0, 4, 3}, {0, 0, 0, 9}, {0, 0, 8, 9}, {0, 0, 0, 0}};
        for (int[] r : refused) {
            due.no("p3 section " + r[0] + " " + r[1] + " " + r[2] + " " + r[3],
                x.section(r[0], r[1], r[2], r[3]));
        }
        for (int far : FAR) {
            due.no("p3 far task", x.section(far, 0, 0, 1));
            due.no("p3 far resource", x.section(0, far, 0, 1));
        }
        due.no("p3 far from", x.section(0, 0, Integer.MIN_VALUE, 1));
        due.no("p3 far to", x.section(0, 0, 0, Integer.MAX_VALUE));
        due.is("p3 refused leaves the ceiling", x.ceiling(0), 0);
        due.yes("p3 whole cost", x.section(0, 3, 0, 8));
        due.is("p3 given", x.ceiling(3), 81);
        x.start();
        due.no("p3 after start", x.section(0, 0, 0, 1));
        due.is("p3 after start the ceiling", x.ceiling(0), 0);
    }

    private static StackPolicyKernel withSection(int r, int from, int to) {
        StackPolicyKernel x = new StackPolicyKernel();
        x.task(20, 20, 10);
        x.section(0, r, from, to);
        return x;
    }

    private static void sectionsTogether() {
        due.no("p3 overlaps the end", withSection(0, 3, 6).section(0, 1, 5, 7));
        due.no("p3 overlaps the beginning", withSection(0, 3, 6).section(0, 1, 2, 4));
        due.no("p3 overlaps by more", withSection(0, 3, 6).section(0, 1, 4, 9));
        due.yes("p3 apart behind", withSection(0, 3, 6).section(0, 1, 6, 7));
        due.yes("p3 apart before", withSection(0, 3, 6).section(0, 1, 1, 3));
        due.yes("p3 within", withSection(0, 3, 6).section(0, 1, 4, 5));
        due.yes("p3 within from the beginning", withSection(0, 3, 6).section(0, 1, 3, 5));
        due.yes("p3 within up to the end", withSection(0, 3, 6).section(0, 1, 4, 6));
        due.yes("p3 around", withSection(0, 3, 6).section(0, 1, 2, 7));
        due.yes("p3 around from the beginning", withSection(0, 3, 6).section(0, 1, 3, 7));
        due.yes("p3 around up to the end", withSection(0, 3, 6).section(0, 1, 2, 6));
        due.yes("p3 the same ticks", withSection(0, 3, 6).section(0, 1, 3, 6));
        due.no("p3 same resource within", withSection(0, 3, 6).section(0, 0, 4, 5));
        due.no("p3 same resource around", withSection(0, 3, 6).section(0, 0, 2, 7));
        due.no("p3 same resource same ticks", withSection(0, 3, 6).section(0, 0, 3, 6));
        due.yes("p3 same resource behind", withSection(0, 3, 6).section(0, 0, 6, 8));
        due.yes("p3 same resource before", withSection(0, 3, 6).section(0, 0, 0, 3));
        StackPolicyKernel x = withSection(0, 0, 3);
        x.section(0, 1, 5, 8);
        due.no("p3 agrees with one only", x.section(0, 2, 4, 6));
        due.no("p3 agrees with the other only", x.section(0, 2, 2, 4));
        due.is("p3 neither is given", x.ceiling(2), 0);
        x.task(20, 20, 10);
        due.yes("p3 other tasks do not matter", x.section(1, 0, 2, 6));
    }

    private static void sectionLimits() {
        StackPolicyKernel x = new StackPolicyKernel();
        x.task(20, 20, 10);
        x.task(20, 10, 10);
        for (int i = 0; i < 4; i++) {
            due.yes("p3 section number " + i, x.section(0, 0, i, i + 1));
        }
        due.no("p3 fifth", x.section(0, 1, 8, 9));
        due.is("p3 fifth is not there", x.ceiling(1), 0);
        due.yes("p3 of the other task", x.section(1, 1, 8, 9));
    }

    private static void serverEdges() {
        StackPolicyKernel x = new StackPolicyKernel();
        int[][] refused = {{0, 5}, {-1, 5}, {6, 5}, {1, 0}, {1, 101}, {101, 101}, {0, 0}, {-2, -1}};
        for (int[] r : refused) {
            due.no("p4 server " + r[0] + " " + r[1], x.server(r[0], r[1]));
        }
        for (int far : FAR) {
            due.no("p4 far size", x.server(far, 10));
            due.no("p4 far period", x.server(1, far));
        }
        due.is("p4 none", x.serverFigure(1), NONE);
        due.yes("p4 smallest", x.server(1, 1));
        due.yes("p4 greatest", x.server(100, 100));
        due.is("p4 budget", x.serverFigure(1), 100);
        due.no("p4 refused", x.server(7, 6));
        due.is("p4 refused keeps the earlier", x.serverFigure(1), 100);
    }

    private static void serverAgain() {
        StackPolicyKernel x = new StackPolicyKernel();
        x.server(5, 9);
        due.yes("p4 instead", x.server(2, 7));
        due.is("p4 instead budget", x.serverFigure(1), 2);
        due.is("p4 instead deadline", x.serverFigure(0), 0);
        x.start();
        due.no("p4 after start", x.server(3, 5));
        due.is("p4 after start budget", x.serverFigure(1), 2);
        x.submit(2);
        due.is("p4 its period", x.serverFigure(0), 7);
        StackPolicyKernel y = new StackPolicyKernel();
        y.start();
        due.no("p4 none after start", y.server(1, 2));
        due.is("p4 still none", y.serverFigure(0), NONE);
    }

    private static void startOnce() {
        StackPolicyKernel x = new StackPolicyKernel();
        x.task(10, 10, 4);
        due.is("p5 off before", x.release(0, 1), StackPolicyKernel.OFF);
        due.yes("p5 start", x.start());
        due.is("p5 time", x.time(), 0);
        due.is("p5 release", x.release(0, 4), 1);
        due.is("p5 step", x.step(3), 0);
        due.no("p5 again", x.start());
        due.is("p5 nothing changes", x.time(), 3);
        due.is("p5 the job goes on", x.job(0, 0), 1);
        due.yes("p5 with nothing made", new StackPolicyKernel().start());
    }

    private static StackPolicyKernel withTasks(int... spansAndCosts) {
        StackPolicyKernel x = new StackPolicyKernel();
        for (int i = 0; i < spansAndCosts.length; i += 2) {
            x.task(100, spansAndCosts[i], spansAndCosts[i + 1]);
        }
        return x;
    }

    private static void verdictIsExact() {
        due.is("p6 full use", withTasks(7, 7).verdict(), NONE);
        due.is("p6 sum of 1", withTasks(42, 1, 2, 1, 3, 1, 7, 1).verdict(), NONE);
        due.is("p6 sum of 1 in tenths", withTasks(10, 1, 10, 1, 10, 1, 10, 7).verdict(), NONE);
        // 1/2 + 1/3 + 1/7 = 41/42: 1/43 more stays below 1, 1/41 more does not.
        due.is("p6 just below 1", withTasks(43, 1, 2, 1, 3, 1, 7, 1).verdict(), NONE);
        due.is("p6 just above 1", withTasks(41, 1, 2, 1, 3, 1, 7, 1).verdict(), 0);
        // 96/97 + 1/98 = 1 - 1/97 + 1/98 < 1, and 97/98 + 1/97 = 1 + 1/97 - 1/98 > 1.
        due.is("p6 near 1 below", withTasks(98, 1, 97, 96).verdict(), NONE);
        due.is("p6 near 1 above", withTasks(97, 1, 98, 97).verdict(), 1);
        due.is("p6 large numbers", withTasks(100, 16, 99, 17, 97, 16, 96, 16, 98, 16, 95, 16)
            .verdict(), NONE);
        due.is("p6 large numbers above", withTasks(100, 17, 99, 17, 97, 17, 96, 16, 98, 16, 95, 16)
            .verdict(), 0);
    }

    private static void verdictCountsSmallerSpans() {
        due.is("p6 no task", withTasks().verdict(), NONE);
        due.is("p6 only the longer fails", withTasks(4, 3, 6, 3).verdict(), 1);
        due.is("p6 only the longer fails, made first", withTasks(6, 3, 4, 3).verdict(), 0);
        due.is("p6 equal spans count", withTasks(2, 1, 2, 2).verdict(), 0);
        due.is("p6 the lowest of two", withTasks(4, 2, 6, 3, 5, 3).verdict(), 1);
        StackPolicyKernel x = new StackPolicyKernel();
        x.task(100, 4, 3);
        x.task(100, 8, 3);
        due.is("p6 by span, not by period", x.verdict(), 1);
    }

    private static void verdictCountsTheServer() {
        StackPolicyKernel x = withTasks(4, 2);
        due.yes("p6 server", x.server(1, 2));
        due.is("p6 with the server 1", x.verdict(), NONE);
        x.server(51, 100);
        due.is("p6 with the server above 1", x.verdict(), 0);
        StackPolicyKernel y = withTasks();
        y.server(1, 1);
        due.is("p6 a server alone", y.verdict(), NONE);
        y.task(100, 100, 1);
        due.is("p6 a full server", y.verdict(), 0);
    }

    private static StackPolicyKernel twoSharing(int to) {
        StackPolicyKernel x = withTasks(4, 2, 10, 4);
        x.section(0, 0, 0, 1);
        x.section(1, 0, 0, to);
        return x;
    }

    private static void verdictCountsHolds() {
        // Task 0 has 2/4 and w/4, task 1 has 2/4 + 4/10.
        due.is("p6 w 0", twoSharing(1).verdict(), NONE);
        due.is("p6 w 2", twoSharing(3).verdict(), NONE);
        due.is("p6 w 3", twoSharing(4).verdict(), 0);
        StackPolicyKernel late = withTasks(4, 2, 10, 4);
        late.section(1, 0, 0, 4);
        due.is("p6 a ceiling below the level", late.verdict(), NONE);
        late.section(0, 0, 1, 2);
        due.is("p6 a ceiling at the level", late.verdict(), 0);
        StackPolicyKernel same = withTasks(10, 4, 10, 4);
        same.section(0, 0, 0, 4);
        same.section(1, 0, 0, 4);
        due.is("p6 an equal span does not hold against", same.verdict(), NONE);
        StackPolicyKernel greatest = withTasks(4, 2, 10, 4, 20, 1);
        greatest.section(0, 0, 0, 1);
        greatest.section(0, 1, 1, 2);
        greatest.section(1, 0, 0, 4);
        greatest.section(2, 1, 0, 1);
        due.is("p6 the greatest of two, not the last", greatest.verdict(), 0);
        // Task 1 has 2/4 and w/4; the holder is made first and its section begins late.
        StackPolicyKernel first = withTasks(10, 4, 4, 2);
        first.section(1, 0, 0, 1);
        due.yes("p6 a late section", first.section(0, 0, 1, 4));
        due.is("p6 w 2 of a late section", first.verdict(), NONE);
        StackPolicyKernel longer = withTasks(20, 5, 4, 2);
        longer.section(1, 0, 0, 1);
        longer.section(0, 0, 1, 5);
        due.is("p6 w 3 of the task made first", longer.verdict(), 1);
        // Task 1 has 1/2 + 4/8 and w/8, and no section itself.
        StackPolicyKernel above = withTasks(2, 1, 8, 4, 40, 2);
        due.is("p6 without sections", above.verdict(), 2);
        above.section(0, 3, 0, 1);
        above.section(2, 3, 0, 2);
        due.is("p6 a ceiling above the level", above.verdict(), 1);
    }

    private static void verdictStaysAfterStart() {
        StackPolicyKernel x = withTasks(4, 3, 6, 3);
        x.start();
        due.is("p6 after start", x.verdict(), 1);
        x.release(0, 3);
        x.step(5);
        due.is("p6 while running", x.verdict(), 1);
    }

    private static void ceilings() {
        StackPolicyKernel x = withTasks(50, 5, 30, 5, 100, 5);
        x.section(2, 0, 0, 2);
        due.is("p7 the lowest level", x.ceiling(0), 1);
        x.section(1, 0, 0, 2);
        due.is("p7 a greater level", x.ceiling(0), 71);
        x.section(0, 0, 0, 2);
        due.is("p7 a smaller level", x.ceiling(0), 71);
        x.section(0, 3, 2, 3);
        due.is("p7 the last resource", x.ceiling(3), 51);
        due.is("p7 unused", x.ceiling(1), 0);
        due.is("p7 no resource 4", x.ceiling(4), NONE);
        due.is("p7 no resource -1", x.ceiling(-1), NONE);
        for (int far : FAR) {
            due.is("p7 far", x.ceiling(far), NONE);
        }
        x.task(1, 1, 1);
        x.section(3, 1, 0, 1);
        due.is("p7 the highest level", x.ceiling(1), 100);
        x.start();
        due.is("p7 after start", x.ceiling(0), 71);
    }
}
