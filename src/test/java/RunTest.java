/** Promises 14 to 18: ticks, the time, the counts and the shared words; and what instructions do. */
public final class RunTest {
    private static final int MIN = Integer.MIN_VALUE;
    private static final int MAX = Integer.MAX_VALUE;

    public static void main(String[] args) {
        tickAnswers();
        jobsStartAnew();
        offsets();
        ticks();
        time();
        counts();
        countsOfLaterTasks();
        longestAnswer();
        shared();
        sharedBetweenTasks();
        arithmetic();
        memory();
        jumps();
        placesWrap();
        unknownWords();
        Expect.end();
    }

    /** One task that may use all of 48 ticks, with this program at 0, in RUN. */
    private static TabledExecutive with(int... program) {
        TabledExecutive x = new TabledExecutive();
        x.task(48, 48, 48, 0);
        Words.loadAt(x, 0, program);
        x.synthesize();
        Expect.yes("good", x.check());
        return x;
    }

    private static void tickAnswers() {
        TabledExecutive x = new TabledExecutive();
        Expect.state("tick in EDIT", x::tick);
        x.task(8, 2, 8, 0);
        x.task(8, 2, 8, 0);
        x.task(8, 2, 8, 0);
        Words.loadAt(x, 0, Words.set(0, 1), Words.set(0, 1));
        Words.loadAt(x, 8, Words.set(0, 1), Words.HALT);
        Words.loadAt(x, 16, Words.BREAK);
        x.synthesize();
        x.check();
        int[] due = {0, 300, 1, 101, 202, -1, -1, -1};
        for (int i = 0; i < 24; i++) {
            Expect.same("tick " + i, x.tick(), due[i % 8]);
        }
        for (int t = 0; t < 3; t++) {
            for (int what = 0; what < 3; what++) {
                Expect.same("count " + t + " " + what, x.count(t, what), (t + 2) % 3 == what ? 3 : 0);
            }
        }
        Expect.same("killed: no longest", x.count(0, 3), 0);
        Expect.same("done in tick 3: longest", x.count(1, 3), 4);
        Expect.same("broken: no longest", x.count(2, 3), 0);
        haltAtLastTick();
    }

    private static void haltAtLastTick() {
        TabledExecutive x = new TabledExecutive();
        x.task(2, 1, 2, 0);
        x.task(2, 1, 2, 0);
        x.load(8, 15);
        x.synthesize();
        x.check();
        Expect.same("halts in its last tick: DONE, not KILLED", x.tick(), 100);
        Expect.same("breaks in its last tick: BROKEN, not KILLED", x.tick(), 201);
    }

    /** Every job writes register 1, which would be above 1 if a former job's registers stayed. */
    private static void jobsStartAnew() {
        TabledExecutive x = new TabledExecutive();
        x.task(4, 3, 4, 0);
        Words.loadAt(x, 0, Words.more(1, 1), Words.write(1, 0), Words.more(0, 1), Words.BREAK);
        x.synthesize();
        x.check();
        for (int i = 0; i < 3; i++) {
            Expect.same("job " + i, x.tick(), 0);
            Expect.same("job " + i, x.tick(), 0);
            Expect.same("job " + i + ": registers were 0", x.shared(0), 1);
            Expect.same("job " + i, x.tick(), 300);
            Expect.same("job " + i + ": ended", x.tick(), TabledExecutive.NONE);
        }
        Expect.same("no other word written", x.shared(1), 0);
    }

    private static void offsets() {
        TabledExecutive x = new TabledExecutive();
        x.task(3, 1, 1, 7);
        x.synthesize();
        x.check();
        for (int c = 0; c < 20; c++) {
            Expect.same("tick at " + c, x.tick(), c >= 7 && c % 3 == 1 ? 100 : TabledExecutive.NONE);
        }
        Expect.same("jobs from 7 on", x.count(0, 0), 5);
    }

    private static void ticks() {
        TabledExecutive x = new TabledExecutive();
        Expect.state("ticks in EDIT", () -> x.ticks(1));
        Expect.state("ticks in EDIT, wrong: IllegalState wins", () -> x.ticks(0));
        x.task(10, 3, 10, 0);
        Words.loadAt(x, 0, Words.set(0, 1), Words.HALT);
        x.synthesize();
        x.check();
        for (int many : new int[] {0, -1, 501, MIN, MAX}) {
            Expect.argument("ticks " + many, () -> x.ticks(many));
        }
        Expect.same("ticks that threw took no time", x.time(), 0);
        Expect.same("1 tick", x.ticks(1), 1);
        Expect.same("9 ticks", x.ticks(9), 1);
        Expect.same("500 ticks", x.ticks(500), 100);
        Expect.same("time", x.time(), 510);
        Expect.same("jobs", x.count(0, 0), 51);
    }

    private static void time() {
        TabledExecutive x = new TabledExecutive();
        Expect.same("time before the first run", x.time(), 0);
        x.check();
        Expect.same("time at a run's start", x.time(), 0);
        x.tick();
        Expect.same("time after a tick", x.time(), 1);
        x.ticks(500);
        x.ticks(7);
        Expect.same("time after many", x.time(), 508);
        x.stop();
        Expect.same("time after stop", x.time(), 508);
        x.check();
        Expect.same("time at the next run's start", x.time(), 0);
        x.tick();
        Expect.same("time in the next run", x.time(), 1);
    }

    private static void counts() {
        TabledExecutive x = new TabledExecutive();
        Expect.index("count without tasks", () -> x.count(0, 0));
        x.task(4, 1, 4, 0);
        x.task(4, 1, 4, 0);
        Expect.same("count before a run", x.count(1, 3), 0);
        for (int t : new int[] {-1, 2, 6, MIN, MAX}) {
            Expect.index("count of task " + t, () -> x.count(t, 0));
        }
        for (int what : new int[] {-1, 4, MIN, MAX}) {
            Expect.index("count of what " + what, () -> x.count(0, what));
        }
        x.synthesize();
        x.check();
        x.ticks(5);
        Expect.same("task 0 was done twice", x.count(0, 0), 2);
        Expect.same("task 1 was done once", x.count(1, 0), 1);
    }

    private static void countsOfLaterTasks() {
        TabledExecutive x = new TabledExecutive();
        x.task(2, 1, 2, 0);
        x.synthesize();
        x.check();
        x.ticks(9);
        x.stop();
        x.task(2, 1, 2, 0);
        Expect.same("task 0 was in the run", x.count(0, 0), 5);
        Expect.same("task 1 was added later", x.count(1, 0), 0);
        Expect.same("task 1 was added later", x.count(1, 3), 0);
        x.clear();
        x.task(2, 1, 2, 0);
        for (int what = 0; what < 4; what++) {
            Expect.same("the new task 0 was added later", x.count(0, what), 0);
        }
    }

    /** The slots stand 2, 5 and 1 ticks behind the releases. */
    private static void longestAnswer() {
        TabledExecutive x = new TabledExecutive();
        x.task(8, 1, 8, 3);
        x.task(24, 1, 24, 0);
        x.slot(0, 5, 1, 0);
        x.slot(1, 16, 1, 0);
        x.slot(2, 20, 1, 0);
        x.slot(3, 23, 1, 1);
        x.load(8, Words.BREAK);
        Expect.yes("good", x.check());
        x.ticks(5);
        Expect.same("none done yet", x.count(0, 3), 0);
        x.tick();
        Expect.same("released 3, done in 5", x.count(0, 3), 3);
        x.ticks(11);
        Expect.same("released 11, done in 16", x.count(0, 3), 6);
        x.ticks(31);
        Expect.same("the most stays", x.count(0, 3), 6);
        Expect.same("six were done", x.count(0, 0), 6);
        Expect.same("broken: 0", x.count(1, 3), 0);
        Expect.same("broken twice", x.count(1, 1), 2);
    }

    private static void shared() {
        TabledExecutive x = new TabledExecutive();
        for (int place : new int[] {-1, 16, MIN, MAX}) {
            Expect.index("shared " + place, () -> x.shared(place));
        }
        TabledExecutive y = with(Words.set(1, 15), Words.set(2, 77), Words.write(2, 1), Words.write(1, 0));
        y.ticks(5);
        Expect.same("shared 15", y.shared(15), 77);
        Expect.same("shared 0", y.shared(0), 15);
        for (int i = 1; i < 15; i++) {
            Expect.same("shared " + i, y.shared(i), 0);
        }
    }

    private static void sharedBetweenTasks() {
        TabledExecutive x = new TabledExecutive();
        x.task(6, 3, 6, 0);
        x.task(6, 3, 6, 0);
        Words.loadAt(x, 0, Words.set(1, 42), Words.write(1, 0));
        Words.loadAt(x, 8, Words.set(2, 9), Words.read(1, 0), Words.write(1, 2));
        x.synthesize();
        x.check();
        Expect.same("both", x.ticks(6), 6);
        Expect.same("the second task read what the first wrote", x.shared(9), 42);
    }

    /** Runs the program, which leaves its answer in register 1, and then writes that to shared word 0 by register 3. */
    private static void leaves(String what, int want, int... program) {
        int[] all = java.util.Arrays.copyOf(program, program.length + 2);
        all[program.length] = Words.write(1, 3);
        TabledExecutive x = with(all);
        Expect.same(what + ": ticks", x.ticks(all.length), all.length);
        Expect.same(what + ": done", x.count(0, 0), 1);
        Expect.same(what, x.shared(0), want);
    }

    private static void arithmetic() {
        leaves("set", 8388607, Words.set(1, 8388607));
        leaves("set below 0", -8388608, Words.set(1, -8388608));
        leaves("set leaves other registers", 5, Words.set(1, 5), Words.set(0, 6), Words.set(2, 7));
        leaves("add", 12, Words.set(1, 5), Words.set(2, 7), Words.add(1, 2));
        leaves("add to itself", 10, Words.set(1, 5), Words.add(1, 1));
        leaves("add changes a alone", 7, Words.set(0, 5), Words.set(1, 7), Words.add(0, 1));
        leaves("subtract", -2, Words.set(1, 5), Words.set(2, 7), Words.subtract(1, 2));
        leaves("multiply", -35, Words.set(1, -5), Words.set(2, 7), Words.multiply(1, 2));
        leaves("more", 3, Words.set(1, -5), Words.more(1, 8));
        leaves("more, below 0", -13, Words.set(1, -5), Words.more(1, -8));
        int wide = 8388607 * 8388607;
        leaves("multiply wraps", wide, Words.set(1, 8388607), Words.multiply(1, 1));
        leaves("multiply wraps again", wide * wide, Words.set(1, 8388607), Words.multiply(1, 1), Words.multiply(1, 1));
        leaves("add wraps", MIN, Words.set(1, 1 << 20), Words.set(2, 1 << 10), Words.multiply(1, 2), Words.add(1, 1));
        leaves("subtract wraps", MAX, Words.set(1, 1 << 20), Words.set(2, 1 << 11), Words.multiply(1, 2),
                Words.set(0, 1), Words.subtract(1, 0));
        leaves("more wraps", MAX, Words.set(1, 1 << 20), Words.set(2, 1 << 11), Words.multiply(1, 2), Words.more(1, -1));
    }

    private static void memory() {
        leaves("read", 6, Words.set(0, 6), Words.set(2, 11), Words.write(0, 2), Words.read(1, 2));
        leaves("read of an unwritten word", 0, Words.set(1, 6), Words.set(2, 11), Words.read(1, 2));
        leaves("places are modulo 16", 6, Words.set(0, 6), Words.set(2, 19), Words.write(0, 2), Words.set(2, 35),
                Words.read(1, 2));
        leaves("places below 0", 6, Words.set(0, 6), Words.set(2, -1), Words.write(0, 2), Words.set(2, 15),
                Words.read(1, 2));
        leaves("read by a place below 0", 6, Words.set(0, 6), Words.set(2, 15), Words.write(0, 2), Words.set(2, -17),
                Words.read(1, 2));
    }

    /** Runs one jump at 0 with register 2 as given; the words at 2 .. 63 break, but for a halt at the target. */
    private static void jumpsTo(String what, int register, int jump, int target) {
        TabledExecutive x = new TabledExecutive();
        x.task(48, 48, 48, 0);
        for (int place = 0; place < 64; place++) {
            x.load(place, place == target ? Words.HALT : Words.BREAK);
        }
        x.entry(0, 20);
        Words.loadAt(x, 20, Words.set(2, register), jump);
        x.synthesize();
        x.check();
        Expect.same(what, x.ticks(3), 3);
        Expect.same(what + ": halted at " + target, x.count(0, 0), 1);
    }

    private static void jumps() {
        jumpsTo("if zero: 0", 0, Words.ifZero(2, 40), 40);
        jumpsTo("if zero: 1", 1, Words.ifZero(2, 40), 22);
        jumpsTo("if zero: -1", -1, Words.ifZero(2, 40), 22);
        jumpsTo("if below: -1", -1, Words.ifBelow(2, 40), 40);
        jumpsTo("if below: 0", 0, Words.ifBelow(2, 40), 22);
        jumpsTo("if below: 1", 1, Words.ifBelow(2, 40), 22);
        for (int register = -1; register <= 1; register++) {
            jumpsTo("jump", register, Words.jump(40), 40);
        }
        jumpsTo("jump back", 0, Words.jump(0), 0);
        jumpsTo("jump to 63", 0, Words.jump(63), 63);
        jumpsTo("jump modulo 64", 0, Words.jump(64 + 5), 5);
        jumpsTo("jump below 0", 0, Words.jump(-1), 63);
        jumpsTo("if zero, modulo 64", 0, Words.ifZero(2, 640 + 7), 7);
        jumpsTo("if below, below 0", -9, Words.ifBelow(2, -64), 0);
    }

    private static void placesWrap() {
        TabledExecutive x = new TabledExecutive();
        x.task(4, 4, 4, 0);
        x.entry(0, 62);
        Words.loadAt(x, 62, Words.set(1, 3), Words.set(2, 4));
        Words.loadAt(x, 0, Words.write(1, 2), Words.HALT);
        x.synthesize();
        x.check();
        Expect.same("after 63 comes 0", x.ticks(3), 3);
        Expect.same("after 63 comes 0", x.shared(4), 3);
        Expect.same("then 1", x.tick(), 100);
    }

    private static void unknownWords() {
        for (int o = 11; o <= 15; o++) {
            TabledExecutive x = with(Words.word(o, 1, 2, 3));
            Expect.same("word " + o + " breaks", x.tick(), 200);
            Expect.same("word " + o + ": then idle", x.tick(), TabledExecutive.NONE);
            Expect.same("word " + o + ": counted", x.count(0, 1), 1);
        }
        Expect.same("the word -1 breaks", with(-1).tick(), 200);
        Expect.same("the least word halts", with(MIN).tick(), 100);
        Expect.same("a halt with other parts halts", with(Words.word(0, 3, 3, -1)).tick(), 100);
    }
}
