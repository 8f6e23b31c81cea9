import java.math.BigInteger;
import java.util.ArrayList;
import java.util.Arrays;
import java.util.Comparator;
import java.util.HashSet;
import java.util.List;
import java.util.Set;

/** The document over again, written to be compared with: all jobs in lists, nothing kept from tick to tick in rows. */
final class SlowExecutive {
    record Slot(int start, int length, int task) {
    }

    static final class Job {
        final int task;
        final int release;
        final int[] registers = new int[4];
        final List<Integer> had = new ArrayList<>();
        int place;
        boolean ended;

        Job(int task, int release, int place) {
            this.task = task;
            this.release = release;
            this.place = place;
        }
    }

    static final class Task {
        final int period;
        final int work;
        final int deadline;
        final int offset;
        int entry;
        int[] counts = new int[4];
        Job job;

        Task(int period, int work, int deadline, int offset, int entry) {
            this.period = period;
            this.work = work;
            this.deadline = deadline;
            this.offset = offset;
            this.entry = entry;
        }
    }

    private final List<Task> tasks = new ArrayList<>();
    private final List<Slot> slots = new ArrayList<>();
    private final int[] code = new int[64];
    private final int[] words = new int[16];
    private boolean run;
    private int time;

    private void edit() {
        if (run) {
            throw new IllegalStateException();
        }
    }

    private void running() {
        if (!run) {
            throw new IllegalStateException();
        }
    }

    private static void within(int i, int least, int greatest) {
        if (i < least || i > greatest) {
            throw new IndexOutOfBoundsException();
        }
    }

    void load(int place, int v) {
        edit();
        within(place, 0, 63);
        code[place] = v;
    }

    int task(int p, int w, int d, int f) {
        edit();
        if (tasks.size() == 6) {
            throw new IllegalStateException();
        }
        boolean fine = 1 <= p && p <= 48 && 1 <= w && w <= d && d <= p && 0 <= f && f <= 48;
        if (!fine) {
            throw new IllegalArgumentException();
        }
        tasks.add(new Task(p, w, d, f, 8 * tasks.size()));
        return tasks.size() - 1;
    }

    void entry(int task, int place) {
        edit();
        within(task, 0, tasks.size() - 1);
        within(place, 0, 63);
        tasks.get(task).entry = place;
    }

    void clear() {
        edit();
        tasks.clear();
        slots.clear();
    }

    private BigInteger lcm() {
        BigInteger h = BigInteger.ONE;
        for (Task t : tasks) {
            BigInteger p = BigInteger.valueOf(t.period);
            h = h.multiply(p).divide(h.gcd(p));
        }
        return h;
    }

    int round() {
        BigInteger h = lcm();
        return h.compareTo(BigInteger.valueOf(240)) > 0 ? -3 : h.intValue();
    }

    int synthesize() {
        edit();
        slots.clear();
        if (round() == -3) {
            return -3;
        }
        int h = round();
        int m = tasks.stream().mapToInt(t -> t.offset).max().orElse(0);
        List<Job> jobs = allJobs(m + 2 * h);
        int[] went = new int[m + 2 * h];
        for (int c = 0; c < went.length; c++) {
            went[c] = give(jobs, c);
        }
        if (tooMuchWork(h) || missed(jobs, m + 2 * h)) {
            return -2;
        }
        int[] round = new int[h];
        for (int c = m + h; c < m + 2 * h; c++) {
            round[c % h] = went[c];
        }
        List<Slot> made = cut(round);
        if (made.size() > 60) {
            return -3;
        }
        slots.addAll(made);
        return slots.size();
    }

    private List<Job> allJobs(int end) {
        List<Job> jobs = new ArrayList<>();
        for (int t = 0; t < tasks.size(); t++) {
            for (int r = tasks.get(t).offset; r < end; r += tasks.get(t).period) {
                jobs.add(new Job(t, r, 0));
            }
        }
        return jobs;
    }

    private int windowEnd(Job j) {
        return j.release + tasks.get(j.task).deadline;
    }

    private int give(List<Job> jobs, int c) {
        Job first = jobs.stream()
                .filter(j -> j.release <= c && j.had.size() < tasks.get(j.task).work)
                .min(Comparator.comparingInt(this::windowEnd).thenComparingInt(j -> j.task)).orElse(null);
        if (first == null) {
            return -1;
        }
        first.had.add(c);
        return first.task;
    }

    private boolean tooMuchWork(int h) {
        return tasks.stream().mapToInt(t -> t.work * h / t.period).sum() > h;
    }

    private boolean missed(List<Job> jobs, int upTo) {
        return jobs.stream().filter(j -> windowEnd(j) <= upTo)
                .anyMatch(j -> j.had.stream().filter(c -> c < windowEnd(j)).count() < tasks.get(j.task).work);
    }

    private static List<Slot> cut(int[] round) {
        List<Slot> made = new ArrayList<>();
        int x = 0;
        while (x < round.length) {
            int y = x;
            while (y < round.length && round[y] == round[x]) {
                y++;
            }
            if (round[x] >= 0) {
                made.add(new Slot(x, y - x, round[x]));
            }
            x = y;
        }
        return made;
    }

    void slot(int i, int start, int length, int task) {
        edit();
        within(i, 0, Math.min(59, slots.size()));
        within(task, 0, tasks.size() - 1);
        if (start < 0 || start > 239 || length < 1 || length > 240) {
            throw new IllegalArgumentException();
        }
        if (i == slots.size()) {
            slots.add(null);
        }
        slots.set(i, new Slot(start, length, task));
    }

    void drop() {
        edit();
        if (slots.isEmpty()) {
            throw new IllegalStateException();
        }
        slots.remove(slots.size() - 1);
    }

    int slots() {
        return slots.size();
    }

    int slotOf(int i, int what) {
        within(i, 0, slots.size() - 1);
        within(what, 0, 2);
        Slot s = slots.get(i);
        return new int[] {s.start, s.length, s.task}[what];
    }

    boolean check() {
        edit();
        if (round() == -3 || !good(round())) {
            return false;
        }
        run = true;
        time = 0;
        Arrays.fill(words, 0);
        for (Task t : tasks) {
            t.job = null;
            t.counts = new int[4];
        }
        return true;
    }

    private boolean good(int h) {
        List<Set<Integer>> covered = new ArrayList<>();
        tasks.forEach(t -> covered.add(new HashSet<>()));
        Set<Integer> all = new HashSet<>();
        for (Slot s : slots) {
            for (int x = s.start; x < s.start + s.length; x++) {
                if (x >= h || !all.add(x)) {
                    return false;
                }
                covered.get(s.task).add(x);
            }
        }
        for (int t = 0; t < tasks.size(); t++) {
            if (!fits(tasks.get(t), covered.get(t), h)) {
                return false;
            }
        }
        return true;
    }

    private static boolean fits(Task t, Set<Integer> covered, int h) {
        Set<Integer> outside = new HashSet<>(covered);
        for (int k = 0; k <= h / t.period - 1; k++) {
            Set<Integer> window = new HashSet<>();
            for (int j = 0; j < t.deadline; j++) {
                window.add(((t.offset + k * t.period) % h + j) % h);
            }
            outside.removeAll(window);
            window.retainAll(covered);
            if (window.size() != t.work) {
                return false;
            }
        }
        return outside.isEmpty();
    }

    void stop() {
        running();
        run = false;
    }

    int tick() {
        running();
        for (int t = 0; t < tasks.size(); t++) {
            Task k = tasks.get(t);
            if (time >= k.offset && (time - k.offset) % k.period == 0) {
                k.job = new Job(t, time, k.entry);
            }
        }
        int answer = -1;
        for (Slot s : slots) {
            int x = time % round();
            Job job = tasks.get(s.task).job;
            if (s.start <= x && x < s.start + s.length && job != null && !job.ended) {
                answer = s.task + 100 * serve(tasks.get(s.task), job);
            }
        }
        time++;
        return answer;
    }

    private int serve(Task t, Job job) {
        int how = instruction(job);
        job.had.add(time);
        if (how == 0 && job.had.size() == t.work) {
            how = 3;
        }
        job.ended = how != 0;
        if (how != 0) {
            t.counts[how - 1]++;
        }
        if (how == 1 && time + 1 - job.release > t.counts[3]) {
            t.counts[3] = time + 1 - job.release;
        }
        return how;
    }

    private int instruction(Job j) {
        int v = code[j.place];
        j.place = j.place == 63 ? 0 : j.place + 1;
        int o = Math.floorMod(v, 16);
        int a = Math.floorMod(Math.floorDiv(v, 16), 4);
        int b = Math.floorMod(Math.floorDiv(v, 64), 4);
        int n = Math.floorDiv(v, 256);
        int at = Math.floorMod(j.registers[b], 16);
        if (o == 1) {
            j.registers[a] = n;
        } else if (o == 2) {
            j.registers[a] = (int) ((long) j.registers[a] + j.registers[b]);
        } else if (o == 3) {
            j.registers[a] = (int) ((long) j.registers[a] - j.registers[b]);
        } else if (o == 4) {
            j.registers[a] = (int) ((long) j.registers[a] * j.registers[b]);
        } else if (o == 5) {
            j.registers[a] = words[at];
        } else if (o == 6) {
            words[at] = j.registers[a];
        } else if (o == 7 && j.registers[a] == 0 || o == 8 && j.registers[a] < 0 || o == 9) {
            j.place = Math.floorMod(n, 64);
        } else if (o == 10) {
            j.registers[a] = (int) ((long) j.registers[a] + n);
        }
        return o == 0 ? 1 : o > 10 ? 2 : 0;
    }

    int ticks(int many) {
        running();
        if (many < 1 || many > 500) {
            throw new IllegalArgumentException();
        }
        int busy = 0;
        for (int i = 0; i < many; i++) {
            busy += tick() == -1 ? 0 : 1;
        }
        return busy;
    }

    int time() {
        return time;
    }

    int count(int task, int what) {
        within(task, 0, tasks.size() - 1);
        within(what, 0, 3);
        return tasks.get(task).counts[what];
    }

    int shared(int place) {
        within(place, 0, 15);
        return words[place];
    }
}
