import java.util.Random;
import java.util.function.IntSupplier;

/** Runs of calls on the program and on the slow model at once: every answer and every exception must be the same. */
public final class ModelTest {
    private static final int RUNS = 1500;
    private static final int CALLS = 512;
    private static final int THROWN = 1 << 20;
    private static final int[] ROUNDS = {4, 6, 8, 12, 16, 20, 24, 30, 36, 40, 48, 60, 80, 120, 144, 240};

    private final Random random;
    private final TabledExecutive x = new TabledExecutive();
    private final SlowExecutive y = new SlowExecutive();
    private final String run;
    private final int round;
    private int call;
    private int checkedGood;

    private ModelTest(int seed) {
        random = new Random(seed);
        run = "run " + seed + ", call ";
        round = ROUNDS[random.nextInt(ROUNDS.length)];
    }

    public static void main(String[] args) {
        int good = 0;
        for (int seed = 0; seed < RUNS; seed++) {
            good += new ModelTest(seed).play();
        }
        Expect.yes("the runs reach RUN often enough: " + good, good > RUNS);
        Expect.end();
    }

    private int play() {
        while (call < CALLS) {
            step();
        }
        return checkedGood;
    }

    /** Nothing is promised after the 512th call. */
    private void both(String what, IntSupplier left, IntSupplier right) {
        call++;
        if (call > CALLS) {
            return;
        }
        Expect.same(run + call + ": " + what, answer(left), answer(right));
    }

    private void bothDo(String what, Runnable left, Runnable right) {
        both(what, () -> {
            left.run();
            return 0;
        }, () -> {
            right.run();
            return 0;
        });
    }

    private static int answer(IntSupplier s) {
        try {
            return s.getAsInt();
        } catch (RuntimeException e) {
            return e.getClass() == IllegalStateException.class ? THROWN
                    : e.getClass() == IndexOutOfBoundsException.class ? THROWN + 1
                    : e.getClass() == IllegalArgumentException.class ? THROWN + 2 : THROWN + e.hashCode();
        }
    }

    private int upTo(int n) {
        return random.nextInt(n + 1);
    }

    /** Mostly within 0 .. n, now and then just outside. */
    private int about(int n) {
        return upTo(30) == 0 ? (random.nextBoolean() ? -1 : n + 1) : upTo(n);
    }

    private void step() {
        int kind = upTo(99);
        if (kind < 12) {
            addTask();
        } else if (kind < 24) {
            loadWord();
        } else if (kind < 32) {
            tableByRule();
        } else if (kind < 40) {
            tableByHand();
        } else if (kind < 50) {
            startOrStop();
        } else if (kind < 75) {
            runOn();
        } else {
            look();
        }
    }

    private void addTask() {
        if (upTo(3) == 0) {
            bothDo("clear", x::clear, y::clear);
        }
        int p = divisorOfRound();
        int d = upTo(2) == 0 ? p : 1 + upTo(Math.max(0, p - 1));
        int w = 1 + (upTo(4) == 0 ? upTo(d) : upTo(Math.max(0, Math.min(d - 1, p / 3))));
        int f = upTo(1) == 0 ? 0 : about(48);
        int period = upTo(20) == 0 ? about(49) : p;
        both("task " + period + " " + w + " " + d + " " + f, () -> x.task(period, w, d, f),
                () -> y.task(period, w, d, f));
        both("round", x::round, y::round);
    }

    private int divisorOfRound() {
        int p = 1 + upTo(47);
        return round % p == 0 ? p : round % (p / 2 + 1) == 0 ? p / 2 + 1 : Math.min(48, round);
    }

    private void loadWord() {
        int place = about(63);
        int n = upTo(3) == 0 ? random.nextInt() >> 8 : upTo(70) - 3;
        int v = upTo(20) == 0 ? random.nextInt() : Words.word(upTo(4) == 0 ? upTo(15) : 1 + upTo(9), upTo(3), upTo(3), n);
        bothDo("load " + place + " " + v, () -> x.load(place, v), () -> y.load(place, v));
        int task = about(5);
        int to = about(63);
        if (upTo(3) == 0) {
            bothDo("entry " + task + " " + to, () -> x.entry(task, to), () -> y.entry(task, to));
        }
    }

    private void tableByRule() {
        both("synthesize", x::synthesize, y::synthesize);
        sameTable();
    }

    private void sameTable() {
        both("slots", x::slots, y::slots);
        for (int i = 0; i < y.slots(); i++) {
            for (int what = 0; what < 3; what++) {
                int slot = i;
                int part = what;
                both("slotOf " + i + " " + what, () -> x.slotOf(slot, part), () -> y.slotOf(slot, part));
            }
        }
    }

    private void tableByHand() {
        if (upTo(2) == 0) {
            bothDo("drop", x::drop, y::drop);
            return;
        }
        int i = upTo(2) == 0 ? y.slots() : about(Math.max(0, y.slots()));
        int start = upTo(5) == 0 ? about(239) : about(Math.max(0, round - 1));
        int length = upTo(9) == 0 ? about(240) : 1 + upTo(2);
        int task = about(5);
        bothDo("slot " + i + " " + start + " " + length + " " + task, () -> x.slot(i, start, length, task),
                () -> y.slot(i, start, length, task));
    }

    private void startOrStop() {
        if (upTo(3) == 0) {
            bothDo("stop", x::stop, y::stop);
            return;
        }
        both("check", () -> x.check() ? 1 : 0, () -> {
            boolean good = y.check();
            checkedGood += good && y.slots() > 0 ? 1 : 0;
            return good ? 1 : 0;
        });
    }

    private void runOn() {
        if (upTo(3) > 0) {
            both("tick", x::tick, y::tick);
            return;
        }
        int many = upTo(10) == 0 ? about(500) : 1 + upTo(60);
        both("ticks " + many, () -> x.ticks(many), () -> y.ticks(many));
    }

    private void look() {
        int task = about(5);
        int what = about(3);
        int place = about(15);
        int i = about(60);
        int part = about(2);
        both("count " + task + " " + what, () -> x.count(task, what), () -> y.count(task, what));
        both("shared " + place, () -> x.shared(place), () -> y.shared(place));
        both("slotOf " + i + " " + part, () -> x.slotOf(i, part), () -> y.slotOf(i, part));
        both("time", x::time, y::time);
        both("round", x::round, y::round);
    }
}
