import java.util.Arrays;

/**
 * Tasks that come again and again get their ticks from a table of slots: the table is worked out, or made
 * by hand and checked, and then run with small programs that are stopped when their ticks are used up.
 */
public final class TabledExecutive {
    public static final int NONE = -1;
    public static final int INFEASIBLE = -2;
    public static final int LONG = -3;

    private static final int MOST_TASKS = 6;
    private static final int LONGEST_PERIOD = 48;
    private static final int GREATEST_OFFSET = 48;
    private static final int MOST_SLOTS = 60;
    private static final int LONGEST_ROUND = 240;
    private static final int MOST_TICKS_A_CALL = 500;
    private static final int CODE_WORDS = 64;
    private static final int SHARED_WORDS = 16;
    private static final int REGISTERS = 4;
    private static final int ENTRY_STEP = 8;

    // What a tick made of its job. An ended job is counted at its outcome - 1, and adds 100 times it to the answer.
    private static final int GOES_ON = 0;
    private static final int DONE = 1;
    private static final int BROKEN = 2;
    private static final int KILLED = 3;
    private static final int OUTCOME_STEP = 100;

    private static final int LONGEST_ANSWER = 3;
    private static final int COUNTS = 4;

    private static final int SLOT_PARTS = 3;

    private final TaskList tasks;
    private final Table table;
    private final Planner planner;
    private final Machine machine;
    /** The task that each tick of the round belongs to, or NONE. It holds in RUN; in EDIT it is scratch. */
    private final int[] owners;
    private boolean running;
    private int runRound;
    private int now;

    public TabledExecutive() {
        tasks = new TaskList();
        table = new Table();
        planner = new Planner();
        machine = new Machine();
        owners = new int[LONGEST_ROUND];
        running = false;
        runRound = 1;
        now = 0;
    }

    public void load(int place, int v) throws IllegalStateException, IndexOutOfBoundsException {
        needEdit();
        needIndex(place, CODE_WORDS);
        machine.code[place] = v;
    }

    public int task(int period, int work, int deadline, int offset)
            throws IllegalStateException, IllegalArgumentException {
        needEdit();
        if (tasks.size == MOST_TASKS) {
            throw new IllegalStateException("there are 6 tasks");
        }
        if (!isTask(period, work, deadline, offset)) {
            throw new IllegalArgumentException("no such task can be");
        }
        return tasks.append(period, work, deadline, offset);
    }

    public void entry(int task, int place) throws IllegalStateException, IndexOutOfBoundsException {
        needEdit();
        needIndex(task, tasks.size);
        needIndex(place, CODE_WORDS);
        tasks.rows[task].firstPlace = place;
    }

    public void clear() throws IllegalStateException {
        needEdit();
        tasks.size = 0;
        table.size = 0;
    }

    public int round() {
        return tasks.commonRound();
    }

    public int synthesize() throws IllegalStateException {
        needEdit();
        table.size = 0;
        int h = tasks.commonRound();
        if (h == LONG) {
            return LONG;
        }
        if (!planner.plan(tasks, owners, h)) {
            return INFEASIBLE;
        }
        return table.become(owners, h) ? table.size : LONG;
    }

    public void slot(int i, int start, int length, int task)
            throws IllegalStateException, IndexOutOfBoundsException, IllegalArgumentException {
        needEdit();
        needIndex(i, Math.min(table.size + 1, MOST_SLOTS));
        needIndex(task, tasks.size);
        if (start < 0 || start >= LONGEST_ROUND || length < 1 || length > LONGEST_ROUND) {
            throw new IllegalArgumentException("no such slot can be");
        }
        table.put(i, start, length, task);
    }

    public void drop() throws IllegalStateException {
        needEdit();
        if (table.size == 0) {
            throw new IllegalStateException("there is no slot");
        }
        table.size--;
    }

    public int slots() {
        return table.size;
    }

    public int slotOf(int i, int what) throws IndexOutOfBoundsException {
        needIndex(i, table.size);
        needIndex(what, SLOT_PARTS);
        return table.part(i, what);
    }

    public boolean check() throws IllegalStateException {
        needEdit();
        int h = tasks.commonRound();
        if (h == LONG || !table.spread(owners, h) || !tasks.areServed(owners, h)) {
            return false;
        }
        startRun(h);
        return true;
    }

    public void stop() throws IllegalStateException {
        needRun();
        running = false;
    }

    public int tick() throws IllegalStateException {
        needRun();
        return runTick();
    }

    public int ticks(int many) throws IllegalStateException, IllegalArgumentException {
        needRun();
        if (many < 1 || many > MOST_TICKS_A_CALL) {
            throw new IllegalArgumentException("not 1 .. 500 ticks");
        }
        int busy = 0;
        for (int i = 0; i < many; i++) {
            if (runTick() != NONE) {
                busy++;
            }
        }
        return busy;
    }

    public int time() {
        return now;
    }

    public int count(int task, int what) throws IndexOutOfBoundsException {
        needIndex(task, tasks.size);
        needIndex(what, COUNTS);
        return tasks.rows[task].counts[what];
    }

    public int shared(int place) throws IndexOutOfBoundsException {
        needIndex(place, SHARED_WORDS);
        return machine.words[place];
    }

    private void needEdit() {
        if (running) {
            throw new IllegalStateException("the mode is not EDIT");
        }
    }

    private void needRun() {
        if (!running) {
            throw new IllegalStateException("the mode is not RUN");
        }
    }

    private static void needIndex(int index, int bound) {
        if (index < 0 || index >= bound) {
            throw new IndexOutOfBoundsException("there is no such number");
        }
    }

    private static boolean isTask(int period, int work, int deadline, int offset) {
        return period >= 1 && period <= LONGEST_PERIOD
                && work >= 1 && work <= deadline && deadline <= period
                && offset >= 0 && offset <= GREATEST_OFFSET;
    }

    private void startRun(int h) {
        running = true;
        runRound = h;
        now = 0;
        Arrays.fill(machine.words, 0);
        for (int t = 0; t < tasks.size; t++) {
            tasks.rows[t].forgetRun();
        }
    }

    private int runTick() {
        tasks.releaseJobs(now);
        // floorMod, so that even a time that has wrapped round finds an owner.
        int owner = owners[Math.floorMod(now, runRound)];
        int answer = NONE;
        if (owner != NONE && tasks.rows[owner].job.open) {
            answer = owner + OUTCOME_STEP * serve(tasks.rows[owner]);
        }
        now++;
        return answer;
    }

    private int serve(Task task) {
        Job job = task.job;
        int outcome = machine.step(job);
        job.had++;
        if (outcome == GOES_ON && job.had >= task.work) {
            outcome = KILLED;
        }
        if (outcome != GOES_ON) {
            task.endJob(outcome, now + 1);
        }
        return outcome;
    }

    /** What a task has of its newest job. */
    private static final class Job {
        final int[] registers = new int[REGISTERS];
        int place;
        int had;
        int released;
        /** Whether there is a job that has not ended. */
        boolean open;

        void start(int firstPlace, int time) {
            Arrays.fill(registers, 0);
            place = firstPlace;
            had = 0;
            released = time;
            open = true;
        }
    }

    private static final class Task {
        // From the start at least 1, as it divides.
        int period = 1;
        int work;
        int deadline;
        int offset;
        int firstPlace;
        final Job job = new Job();
        final int[] counts = new int[COUNTS];

        boolean releasesAt(int time) {
            return time >= offset && (time - offset) % period == 0;
        }

        void forgetRun() {
            job.open = false;
            Arrays.fill(counts, 0);
        }

        void endJob(int outcome, int time) {
            job.open = false;
            counts[outcome - 1]++;
            if (outcome == DONE) {
                counts[LONGEST_ANSWER] = Math.max(counts[LONGEST_ANSWER], time - job.released);
            }
        }

        /** Whether it has just its work in each window and nothing between two windows. */
        boolean isServed(int number, int[] owners, int h) {
            for (int k = 0; k < h / period; k++) {
                int release = offset + k * period;
                if (ticksOf(number, release, deadline, owners, h) != work
                        || ticksOf(number, release + deadline, period - deadline, owners, h) != 0) {
                    return false;
                }
            }
            return true;
        }

        private static int ticksOf(int number, int from, int many, int[] owners, int h) {
            int found = 0;
            for (int x = from; x < from + many; x++) {
                if (owners[x % h] == number) {
                    found++;
                }
            }
            return found;
        }
    }

    /** The tasks; their rows are made once and used again after a clear. */
    private static final class TaskList {
        final Task[] rows = new Task[MOST_TASKS];
        int size;

        TaskList() {
            for (int t = 0; t < MOST_TASKS; t++) {
                rows[t] = new Task();
            }
        }

        int append(int period, int work, int deadline, int offset) {
            Task task = rows[size];
            task.period = period;
            task.work = work;
            task.deadline = deadline;
            task.offset = offset;
            task.firstPlace = ENTRY_STEP * size;
            // The row may hold counts of a task that has been cleared away.
            task.forgetRun();
            size++;
            return size - 1;
        }

        /** The round, or LONG if it is too long to be used. */
        int commonRound() {
            for (int h = 1; h <= LONGEST_ROUND; h++) {
                if (isCommonMultiple(h)) {
                    return h;
                }
            }
            return LONG;
        }

        private boolean isCommonMultiple(int h) {
            for (int t = 0; t < size; t++) {
                if (h % rows[t].period != 0) {
                    return false;
                }
            }
            return true;
        }

        int greatestOffset() {
            int greatest = 0;
            for (int t = 0; t < size; t++) {
                greatest = Math.max(greatest, rows[t].offset);
            }
            return greatest;
        }

        int workInRound(int h) {
            int sum = 0;
            for (int t = 0; t < size; t++) {
                sum += rows[t].work * (h / rows[t].period);
            }
            return sum;
        }

        boolean areServed(int[] owners, int h) {
            for (int t = 0; t < size; t++) {
                if (!rows[t].isServed(t, owners, h)) {
                    return false;
                }
            }
            return true;
        }

        void releaseJobs(int time) {
            for (int t = 0; t < size; t++) {
                if (rows[t].releasesAt(time)) {
                    rows[t].job.start(rows[t].firstPlace, time);
                }
            }
        }
    }

    /** The slots, in rows that are made once. */
    private static final class Table {
        final int[] starts = new int[MOST_SLOTS];
        final int[] lengths = new int[MOST_SLOTS];
        final int[] slotTasks = new int[MOST_SLOTS];
        int size;

        int part(int i, int what) {
            switch (what) {
                case 0:
                    return starts[i];
                case 1:
                    return lengths[i];
                default:
                    return slotTasks[i];
            }
        }

        /** Changes slot i, or appends it if i is the size. */
        void put(int i, int start, int length, int task) {
            starts[i] = start;
            lengths[i] = length;
            slotTasks[i] = task;
            if (i == size) {
                size++;
            }
        }

        /** Takes its slots from the ticks' owners; false, and without slots, if they would be too many. */
        boolean become(int[] owners, int h) {
            size = 0;
            for (int x = 0; x < h; x++) {
                if (owners[x] == NONE) {
                    continue;
                }
                if (size > 0 && x > 0 && owners[x] == owners[x - 1]) {
                    lengths[size - 1]++;
                } else if (size < MOST_SLOTS) {
                    put(size, x, 1, owners[x]);
                } else {
                    size = 0;
                    return false;
                }
            }
            return true;
        }

        /** Writes down each tick's owner; false if a slot leaves the round or two slots meet. */
        boolean spread(int[] owners, int h) {
            Arrays.fill(owners, NONE);
            for (int i = 0; i < size; i++) {
                if (starts[i] + lengths[i] > h) {
                    return false;
                }
                for (int x = starts[i]; x < starts[i] + lengths[i]; x++) {
                    if (owners[x] != NONE) {
                        return false;
                    }
                    owners[x] = slotTasks[i];
                }
            }
            return true;
        }
    }

    /** Imagines the ticks from 0 on. As a window ends before its task's next release, a task has one job at a time. */
    private static final class Planner {
        /** How many ticks each task's job still wants. */
        final int[] wanted = new int[MOST_TASKS];
        final int[] windowEnds = new int[MOST_TASKS];

        /** Writes down whom each tick of the round goes to; false if the tasks are infeasible. */
        boolean plan(TaskList tasks, int[] owners, int h) {
            if (tasks.workInRound(h) > h) {
                return false;
            }
            Arrays.fill(wanted, 0);
            int from = tasks.greatestOffset() + h;
            for (int time = 0; time < from + h; time++) {
                release(tasks, time);
                int chosen = mostUrgent(tasks.size);
                if (chosen != NONE) {
                    wanted[chosen]--;
                }
                if (time >= from) {
                    owners[time % h] = chosen;
                }
                if (missesWindow(tasks.size, time + 1)) {
                    return false;
                }
            }
            return true;
        }

        private void release(TaskList tasks, int time) {
            for (int t = 0; t < tasks.size; t++) {
                Task task = tasks.rows[t];
                if (task.releasesAt(time)) {
                    wanted[t] = task.work;
                    windowEnds[t] = time + task.deadline;
                }
            }
        }

        private int mostUrgent(int size) {
            int chosen = NONE;
            for (int t = 0; t < size; t++) {
                if (wanted[t] > 0 && (chosen == NONE || windowEnds[t] < windowEnds[chosen])) {
                    chosen = t;
                }
            }
            return chosen;
        }

        private boolean missesWindow(int size, int time) {
            for (int t = 0; t < size; t++) {
                if (wanted[t] > 0 && windowEnds[t] <= time) {
                    return true;
                }
            }
            return false;
        }
    }

    /** The code and the shared words, and what an instruction does with them. */
    private static final class Machine {
        final int[] code = new int[CODE_WORDS];
        final int[] words = new int[SHARED_WORDS];

        /** Does one instruction of the job: GOES_ON, DONE or BROKEN. */
        int step(Job job) {
            int v = code[job.place];
            job.place = placeOf(job.place + 1);
            int a = v >> 4 & 3;
            int b = v >> 6 & 3;
            int n = v >> 8;
            int[] r = job.registers;
            switch (v & 15) {
                case 0:
                    return DONE;
                case 1:
                    r[a] = n;
                    break;
                case 2:
                    r[a] += r[b];
                    break;
                case 3:
                    r[a] -= r[b];
                    break;
                case 4:
                    r[a] *= r[b];
                    break;
                case 5:
                    r[a] = words[r[b] & SHARED_WORDS - 1];
                    break;
                case 6:
                    words[r[b] & SHARED_WORDS - 1] = r[a];
                    break;
                case 7:
                    jumpIf(r[a] == 0, n, job);
                    break;
                case 8:
                    jumpIf(r[a] < 0, n, job);
                    break;
                case 9:
                    jumpIf(true, n, job);
                    break;
                case 10:
                    r[a] += n;
                    break;
                default:
                    return BROKEN;
            }
            return GOES_ON;
        }

        private static void jumpIf(boolean jumps, int n, Job job) {
            if (jumps) {
                job.place = placeOf(n);
            }
        }

        private static int placeOf(int n) {
            return n & CODE_WORDS - 1;
        }
    }
}
