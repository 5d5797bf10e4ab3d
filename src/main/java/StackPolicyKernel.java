/**
 * A small real-time kernel: jobs run by earliest deadline, resources are kept by levels and
 * ceilings, and work without a period is done by a server with a budget.
 */
public final class StackPolicyKernel {
    public static final int NONE = -1;
    public static final int OFF = -1;
    public static final int BAD = -2;
    public static final int BUSY = -3;
    public static final int EARLY = -4;

    private static final int MOST_TASKS = 6;
    private static final int MOST_SECTIONS = 4;
    private static final int RESOURCES = 4;
    private static final int LONGEST_PERIOD = 100;
    private static final int MOST_REQUESTS = 8;
    private static final int LARGEST_REQUEST = 50;
    private static final int MOST_TICKS_A_STEP = 200;
    private static final int TRACE_LENGTH = 64;

    private static final int IDLE_CODE = 0;
    private static final int SERVER_CODE = 1;
    private static final int FIRST_JOB_CODE = 2;

    private final Task[] tasks = new Task[MOST_TASKS];
    private final int[] ceilings = new int[RESOURCES];
    private final Server theServer = new Server();
    private final Trace trace = new Trace();
    private int taskCount = 0;
    private boolean started = false;
    private int releasedJobs = 0;
    private int endedJobs = 0;

    public StackPolicyKernel() {
    }

    public int task(int period, int span, int cost) {
        boolean asSaid = 1 <= cost && cost <= span && span <= period && period <= LONGEST_PERIOD;
        if (started || taskCount == MOST_TASKS || !asSaid) {
            return NONE;
        }
        tasks[taskCount] = new Task(period, span, cost);
        taskCount++;
        return taskCount - 1;
    }

    public boolean section(int task, int r, int from, int to) {
        if (started || !isTask(task) || !isResource(r)) {
            return false;
        }
        Task owner = tasks[task];
        if (from < 0 || from >= to || to > owner.cost || !owner.allowsSection(r, from, to)) {
            return false;
        }
        owner.addSection(r, from, to);
        ceilings[r] = Math.max(ceilings[r], owner.level());
        return true;
    }

    public boolean server(int size, int period) {
        if (started || size < 1 || size > period || period > LONGEST_PERIOD) {
            return false;
        }
        theServer.setUp(size, period);
        return true;
    }

    public boolean start() {
        if (started) {
            return false;
        }
        started = true;
        return true;
    }

    public int verdict() {
        for (int i = 0; i < taskCount; i++) {
            if (!passes(tasks[i])) {
                return i;
            }
        }
        return NONE;
    }

    public int ceiling(int r) {
        return isResource(r) ? ceilings[r] : NONE;
    }

    public int release(int task, int amount) {
        if (!started) {
            return OFF;
        }
        if (!isTask(task) || amount < 1 || amount > tasks[task].cost) {
            return BAD;
        }
        Task owner = tasks[task];
        if (owner.job.isPending()) {
            return BUSY;
        }
        if (owner.job.wasReleased() && trace.ticks - owner.job.releaseTime < owner.period) {
            return EARLY;
        }
        owner.job.begin(amount, trace.ticks, owner.span);
        releasedJobs++;
        return releasedJobs;
    }

    public boolean submit(int amount) {
        if (!started || !theServer.exists() || amount < 1 || amount > LARGEST_REQUEST) {
            return false;
        }
        return theServer.takeRequest(amount, trace.ticks);
    }

    public int step(int n) {
        if (!started || n < 0 || n > MOST_TICKS_A_STEP) {
            return NONE;
        }
        int finishedBefore = endedJobs + theServer.finished;
        for (int i = 0; i < n; i++) {
            makeTick();
        }
        return endedJobs + theServer.finished - finishedBefore;
    }

    public int time() {
        return trace.ticks;
    }

    public int ran(int k) {
        return trace.codeBack(k);
    }

    public int queued(int k) {
        for (int code = SERVER_CODE; code < FIRST_JOB_CODE + taskCount; code++) {
            if (isInOrder(code) && placeInOrder(code) == k) {
                return code;
            }
        }
        return 0;
    }

    public int holder(int r) {
        for (int i = 0; i < taskCount; i++) {
            if (tasks[i].holds(r)) {
                return i;
            }
        }
        return NONE;
    }

    public int systemCeiling() {
        return highestHeldCeiling();
    }

    public int job(int task, int k) {
        if (!isTask(task) || !tasks[task].job.wasReleased()) {
            return NONE;
        }
        return tasks[task].job.figure(k);
    }

    public int misses(int task) {
        return isTask(task) ? tasks[task].missedJobs : NONE;
    }

    public int worst(int task) {
        return isTask(task) ? tasks[task].longestResponse : NONE;
    }

    public int serverFigure(int k) {
        return theServer.exists() ? theServer.figure(k) : NONE;
    }

    public int count(int k) {
        switch (k) {
            case 0:
                return trace.idleTicks;
            case 1:
                return trace.changes;
            case 2:
                return endedJobs;
            case 3:
                return begunPendingJobs();
            default:
                return NONE;
        }
    }

    private boolean isTask(int task) {
        return 0 <= task && task < taskCount;
    }

    private static boolean isResource(int r) {
        return 0 <= r && r < RESOURCES;
    }

    private int begunPendingJobs() {
        int begun = 0;
        for (int i = 0; i < taskCount; i++) {
            if (tasks[i].job.isPending() && tasks[i].job.hasRun()) {
                begun++;
            }
        }
        return begun;
    }

    // The sum is kept as one fraction over the product of all denominators. There are at most
    // eight terms, all of whose numbers are at most 100: both parts stay below 8 * 100^8 < 10^17.
    private boolean passes(Task candidate) {
        long above = longestHoldAgainst(candidate);
        long below = candidate.span;
        for (int i = 0; i < taskCount; i++) {
            if (tasks[i].span <= candidate.span) {
                above = above * tasks[i].span + tasks[i].cost * below;
                below = below * tasks[i].span;
            }
        }
        if (theServer.exists()) {
            above = above * theServer.period + theServer.size * below;
            below = below * theServer.period;
        }
        return above <= below;
    }

    private int longestHoldAgainst(Task candidate) {
        int longest = 0;
        for (int i = 0; i < taskCount; i++) {
            if (tasks[i].span > candidate.span) {
                longest = Math.max(longest, tasks[i].longestHold(ceilings, candidate.level()));
            }
        }
        return longest;
    }

    private boolean isInOrder(int code) {
        if (code == SERVER_CODE) {
            return theServer.waiting > 0;
        }
        return tasks[code - FIRST_JOB_CODE].job.isPending();
    }

    private int deadlineOf(int code) {
        if (code == SERVER_CODE) {
            return theServer.deadline;
        }
        return tasks[code - FIRST_JOB_CODE].job.deadline;
    }

    private boolean comesBefore(int code, int other) {
        int deadline = deadlineOf(code);
        int otherDeadline = deadlineOf(other);
        if (deadline != otherDeadline) {
            return deadline < otherDeadline;
        }
        // The server has the lowest code, but is the last of those with equal deadlines.
        return code != SERVER_CODE && (other == SERVER_CODE || code < other);
    }

    private int placeInOrder(int code) {
        int place = 0;
        for (int other = SERVER_CODE; other < FIRST_JOB_CODE + taskCount; other++) {
            if (isInOrder(other) && comesBefore(other, code)) {
                place++;
            }
        }
        return place;
    }

    private int firstInOrder() {
        int first = IDLE_CODE;
        for (int code = SERVER_CODE; code < FIRST_JOB_CODE + taskCount; code++) {
            if (isInOrder(code) && (first == IDLE_CODE || comesBefore(code, first))) {
                first = code;
            }
        }
        return first;
    }

    private int highestHeldCeiling() {
        int highest = 0;
        for (int i = 0; i < taskCount; i++) {
            highest = Math.max(highest, tasks[i].highestHeld(ceilings));
        }
        return highest;
    }

    private void makeTick() {
        int first = firstInOrder();
        int code = chooseRunner(first);
        if (code == SERVER_CODE) {
            theServer.runTick();
        } else if (code != IDLE_CODE) {
            runJob(code - FIRST_JOB_CODE);
            if (code != first) {
                noteBlocked(code);
            }
        }
        trace.note(code);
        noteMisses();
    }

    private int chooseRunner(int first) {
        if (first == IDLE_CODE || first == SERVER_CODE) {
            return first;
        }
        Task candidate = tasks[first - FIRST_JOB_CODE];
        if (candidate.job.hasRun()) {
            return first;
        }
        int systemLevel = highestHeldCeiling();
        if (candidate.level() > systemLevel) {
            return first;
        }
        for (int i = 0; i < taskCount; i++) {
            if (tasks[i].highestHeld(ceilings) == systemLevel) {
                return FIRST_JOB_CODE + i;
            }
        }
        return first;
    }

    private void runJob(int i) {
        tasks[i].runTick();
        if (!tasks[i].job.isPending()) {
            endedJobs++;
            // The tick that has just run is not in the trace yet, but the end comes after it.
            tasks[i].noteResponse(trace.ticks + 1 - tasks[i].job.releaseTime);
        }
    }

    // The runner may have ended with this tick; its deadline still tells its place in the order.
    private void noteBlocked(int runnerCode) {
        int runner = runnerCode - FIRST_JOB_CODE;
        for (int i = 0; i < taskCount; i++) {
            if (tasks[i].job.isPending() && comesBefore(FIRST_JOB_CODE + i, runnerCode)) {
                tasks[i].job.noteBlocked(runner, tasks[runner].tickSpell);
            }
        }
    }

    private void noteMisses() {
        for (int i = 0; i < taskCount; i++) {
            if (tasks[i].job.isPending() && tasks[i].job.deadline == trace.ticks) {
                tasks[i].missedJobs++;
            }
        }
    }

    private static final class Section {
        final int resource;
        final int from;
        final int to;

        Section(int resource, int from, int to) {
            this.resource = resource;
            this.from = from;
            this.to = to;
        }

        // Takes the other section's numbers, so that a refused section makes no object.
        boolean agreesWith(int otherResource, int otherFrom, int otherTo) {
            boolean apart = otherTo <= from || to <= otherFrom;
            boolean within = from <= otherFrom && otherTo <= to;
            boolean around = otherFrom <= from && to <= otherTo;
            return apart || (otherResource != resource && (within || around));
        }

        boolean isHeldAfter(int ticks) {
            return from < ticks && ticks < to;
        }
    }

    /** The latest job of a task: the same object serves all jobs of the task in turn. */
    private static final class Job {
        // For each task its latest spell that has been counted among the blockings; one number
        // is enough, because the spells of one task follow one another.
        final int[] countedSpells = new int[MOST_TASKS];
        int amount = 0;
        int ticksRun = 0;
        int releaseTime = 0;
        int deadline = 0;
        int blockings = 0;
        int blockedTicks = 0;

        boolean wasReleased() {
            return amount > 0;
        }

        boolean isPending() {
            return ticksRun < amount;
        }

        boolean hasRun() {
            return ticksRun > 0;
        }

        void begin(int newAmount, int now, int span) {
            amount = newAmount;
            ticksRun = 0;
            releaseTime = now;
            deadline = now + span;
            blockings = 0;
            blockedTicks = 0;
            for (int i = 0; i < MOST_TASKS; i++) {
                countedSpells[i] = 0;
            }
        }

        void noteBlocked(int runner, int spell) {
            blockedTicks++;
            if (spell != 0 && countedSpells[runner] != spell) {
                countedSpells[runner] = spell;
                blockings++;
            }
        }

        int figure(int k) {
            switch (k) {
                case 0:
                    return amount - ticksRun;
                case 1:
                    return deadline;
                case 2:
                    return blockings;
                case 3:
                    return blockedTicks;
                default:
                    return NONE;
            }
        }
    }

    private static final class Task {
        final int period;
        final int span;
        final int cost;
        final Section[] sections = new Section[MOST_SECTIONS];
        final Job job = new Job();
        int sectionCount = 0;
        int missedJobs = 0;
        int longestResponse = 0;
        // Spells are numbered from 1 over all jobs of the task, so that a number means one spell.
        int spells = 0;
        // The spell of the tick that the task ran last, 0 when that tick was of none.
        int tickSpell = 0;

        Task(int period, int span, int cost) {
            this.period = period;
            this.span = span;
            this.cost = cost;
        }

        int level() {
            return LONGEST_PERIOD + 1 - span;
        }

        boolean allowsSection(int r, int from, int to) {
            if (sectionCount == MOST_SECTIONS) {
                return false;
            }
            for (int i = 0; i < sectionCount; i++) {
                if (!sections[i].agreesWith(r, from, to)) {
                    return false;
                }
            }
            return true;
        }

        // Only after allowsSection: that leaves a free place.
        void addSection(int r, int from, int to) {
            sections[sectionCount] = new Section(r, from, to);
            sectionCount++;
        }

        int longestHold(int[] ceilings, int level) {
            int longest = 0;
            for (int i = 0; i < sectionCount; i++) {
                if (ceilings[sections[i].resource] >= level) {
                    longest = Math.max(longest, sections[i].to - sections[i].from - 1);
                }
            }
            return longest;
        }

        boolean isHeld(Section section) {
            return job.isPending() && section.isHeldAfter(job.ticksRun);
        }

        boolean holds(int r) {
            for (int i = 0; i < sectionCount; i++) {
                if (sections[i].resource == r && isHeld(sections[i])) {
                    return true;
                }
            }
            return false;
        }

        boolean holdsSomething() {
            for (int i = 0; i < sectionCount; i++) {
                if (isHeld(sections[i])) {
                    return true;
                }
            }
            return false;
        }

        int highestHeld(int[] ceilings) {
            int highest = 0;
            for (int i = 0; i < sectionCount; i++) {
                if (isHeld(sections[i])) {
                    highest = Math.max(highest, ceilings[sections[i].resource]);
                }
            }
            return highest;
        }

        void runTick() {
            boolean heldBefore = holdsSomething();
            job.ticksRun++;
            boolean holdsAfter = holdsSomething();
            if (!heldBefore && holdsAfter) {
                spells++;
            }
            tickSpell = heldBefore || holdsAfter ? spells : 0;
        }

        void noteResponse(int response) {
            longestResponse = Math.max(longestResponse, response);
        }
    }

    private static final class Server {
        // A ring: its length is a power of two, so that a mask keeps every index inside.
        final int[] needs = new int[MOST_REQUESTS];
        int oldest = 0;
        int waiting = 0;
        int size = 0;
        int period = 0;
        int budget = 0;
        int deadline = 0;
        int usedUp = 0;
        int finished = 0;

        boolean exists() {
            return size > 0;
        }

        // An earlier server left nothing else to undo, for no server runs before the start.
        void setUp(int newSize, int newPeriod) {
            size = newSize;
            period = newPeriod;
            budget = newSize;
        }

        boolean takeRequest(int amount, int now) {
            if (waiting == MOST_REQUESTS) {
                return false;
            }
            if (waiting == 0 && (long) budget * period >= ((long) deadline - now) * size) {
                deadline = now + period;
                budget = size;
            }
            needs[slot(waiting)] = amount;
            waiting++;
            return true;
        }

        int slot(int place) {
            return (oldest + place) & (MOST_REQUESTS - 1);
        }

        void runTick() {
            needs[oldest]--;
            if (needs[oldest] == 0) {
                oldest = slot(1);
                waiting--;
                finished++;
            }
            budget--;
            if (budget == 0) {
                budget = size;
                deadline += period;
                usedUp++;
            }
        }

        int neededTicks() {
            int needed = 0;
            for (int i = 0; i < waiting; i++) {
                needed += needs[slot(i)];
            }
            return needed;
        }

        int figure(int k) {
            switch (k) {
                case 0:
                    return deadline;
                case 1:
                    return budget;
                case 2:
                    return waiting;
                case 3:
                    return neededTicks();
                case 4:
                    return usedUp;
                case 5:
                    return finished;
                default:
                    return NONE;
            }
        }
    }

    /** What the ticks were: as ticks alone make the time grow, their number is the time. */
    private static final class Trace {
        // A ring: its length is a power of two, so that a mask keeps every index inside.
        final int[] codes = new int[TRACE_LENGTH];
        int ticks = 0;
        int idleTicks = 0;
        int changes = 0;

        void note(int code) {
            if (code == IDLE_CODE) {
                idleTicks++;
            }
            if (ticks > 0 && code != codeBack(0)) {
                changes++;
            }
            codes[ticks & (TRACE_LENGTH - 1)] = code;
            ticks++;
        }

        int codeBack(int k) {
            if (k < 0 || k >= TRACE_LENGTH || k >= ticks) {
                return NONE;
            }
            return codes[(ticks - 1 - k) & (TRACE_LENGTH - 1)];
        }
    }
}
