/** The boundaries that the terms name for code words, registers, places and shared words, and for a tick of a run. */
public final class MachineEdgeTest {
    private static final int MIN = Integer.MIN_VALUE;
    private static final int MAX = Integer.MAX_VALUE;
    private static final int[] WIDE = {MIN, MIN + 1, -65537, -1, 0, 1, 65536, MAX - 1, MAX};
    private static final int[] FAR = {-8388608, -8388607, -65, -64, -1, 0, 1, 63, 64, 127, 8388606, 8388607};
    private static final int NONE = TabledExecutive.NONE;

    public static void main(String[] args) {
        codeAtFirst();
        sharedAtFirst();
        partsOfWord();
        nextPlace();
        nextPlaceBehindJumps();
        setsRegister();
        wrappingArithmetic();
        readsModulo16();
        writesModulo16();
        jumpsIfZero();
        jumpsIfBelow();
        jumpsAlways();
        addsNumber();
        othersBreak();
        timeAtFirst();
        jobsBeginAnew();
        formerJobIsGone();
        tableComesRound();
        onlyJobsThatHaveNotEnded();
        outcomes();
        timeGoesOn();
        Expect.end();
    }

    /** One task that may use all of 48 ticks, with this program at 0, in RUN. */
    private static TabledExecutive with(int... program) {
        return entered(0, program);
    }

    /** The program begins at the place, and goes on at 0 behind 63. */
    private static TabledExecutive entered(int place, int... program) {
        TabledExecutive x = new TabledExecutive();
        x.task(48, 48, 48, 0);
        x.entry(0, place);
        for (int i = 0; i < program.length; i++) {
            x.load((place + i) % 64, program[i]);
        }
        x.slot(0, 0, 48, 0);
        Expect.yes("good", x.check());
        return x;
    }

    private static int[] joined(int[]... parts) {
        return java.util.Arrays.stream(parts).flatMapToInt(java.util.Arrays::stream).toArray();
    }

    /** Any int into a register: its upper 24 bits, shifted by doubling, and the rest. */
    private static int[] number(int register, int v) {
        int twice = Words.add(register, register);
        return new int[] {Words.set(register, v >> 8), twice, twice, twice, twice, twice, twice, twice, twice,
            Words.more(register, v & 255)};
    }

    /** What a program leaves in a register; another one is used for the place to write it to. */
    private static int left(int register, int[] program) {
        int other = (register + 1) % 4;
        TabledExecutive x = with(joined(program, new int[] {Words.set(other, 0), Words.write(register, other)}));
        x.ticks(program.length + 2);
        return x.shared(0);
    }

    private static void codeAtFirst() {
        Expect.sentence("CODE are 64 words, at first 0, at 0 .. 63");
        for (int place = 0; place < 64; place++) {
            TabledExecutive x = entered(place);
            Expect.same("at " + place, x.tick(), 100);
        }
        for (int place = 0; place < 64; place++) {
            TabledExecutive x = entered(0, new int[64]);
            x.stop();
            x.load(place, Words.BREAK);
            x.check();
            Expect.same("word 0 with a break at " + place, x.tick(), place == 0 ? 200 : 100);
        }
        Refused.index("word 64", States::planned, x -> x.load(64, Words.BREAK));
        Refused.index("word -1", States::planned, x -> x.load(-1, Words.BREAK));
    }

    private static void sharedAtFirst() {
        Expect.sentence("SHARED memory has 16 words (ints), at first 0.");
        TabledExecutive x = new TabledExecutive();
        for (int place = 0; place < 16; place++) {
            Expect.same("shared " + place, x.shared(place), 0);
        }
        for (int v : WIDE) {
            TabledExecutive y = with(joined(number(1, v), new int[] {Words.write(1, 0)}));
            y.ticks(11);
            Expect.same("an int", y.shared(0), v);
        }
        Expect.index("shared 16", () -> x.shared(16));
        Expect.index("shared -1", () -> x.shared(-1));
    }

    private static void partsOfWord() {
        Expect.sentence("A word v has the parts o = v & 15, a = v >> 4 & 3, b = v >> 6 & 3, n = v >> 8.");
        Expect.same("all bits: o is 15", with(-1).tick(), 200);
        Expect.same("all bits but o: o is 0", with(~15).tick(), 100);
        Expect.same("the sign alone: o is 0", with(MIN).tick(), 100);
        Expect.same("the greatest: o is 15", with(MAX).tick(), 200);
        Expect.same("16: o is 0", with(16).tick(), 100);
        for (int a = 0; a < 4; a++) {
            for (int r = 0; r < 4; r++) {
                for (int b = 0; b < 4; b++) {
                    int[] set = {1 | a << 4 | b << 6 | -5 << 8};
                    Expect.same("a is " + a + ", register " + r, left(r, set), r == a ? -5 : 0);
                }
            }
        }
        Expect.same("n of the word 1 with all bits above", left(3, new int[] {~15 | 1}), -1);
        Expect.same("n of the greatest such word", left(3, new int[] {MAX & ~15 | 1}), 8388607);
        Expect.same("n of the least such word", left(0, new int[] {MIN | 1}), -8388608);
        Expect.same("b is no part of n", left(0, new int[] {255 & ~63 | 1}), 0);
    }

    /** Each of these goes on at the next place. */
    private static void nextPlace() {
        Expect.sentence("the word at the job's place, which then becomes the next one (after 63: 0)");
        int[] words = {Words.set(0, 9), Words.add(0, 1), Words.subtract(0, 1), Words.multiply(0, 1), Words.read(0, 1),
            Words.write(0, 1), Words.ifZero(0, 30), Words.ifBelow(0, 30), Words.more(1, 3)};
        for (int place = 0; place < 64; place++) {
            for (int word : words) {
                int[] program = new int[64];
                program[0] = Words.set(0, 1);
                program[1] = word;
                program[2] = Words.BREAK;
                TabledExecutive x = entered((place + 63) % 64, program);
                String what = "word " + (word & 15) + " at " + place;
                Expect.same(what, x.tick(), 0);
                Expect.same(what, x.tick(), 0);
                Expect.same(what + ": behind it", x.tick(), 200);
            }
        }
    }

    private static void nextPlaceBehindJumps() {
        Expect.sentence("the word at the job's place, which then becomes the next one (after 63: 0)");
        int[][] jumps = {{30, 0}, {30, 1}, {30, 62}, {30, 63}, {63, 0}, {63, 1}, {63, 61}, {62, 63}, {0, 63}};
        for (int[] jump : jumps) {
            TabledExecutive x = entered(jump[0], Words.jump(jump[1]));
            x.stop();
            x.load((jump[1] + 1) % 64, Words.BREAK);
            x.load(jump[1], Words.set(1, 1));
            x.load(jump[0], Words.jump(jump[1]));
            x.check();
            String what = "a jump from " + jump[0] + " to " + jump[1];
            Expect.same(what, x.tick(), 0);
            Expect.same(what + ": there", x.tick(), 0);
            Expect.same(what + ": behind it", x.tick(), jump[0] == (jump[1] + 1) % 64 ? 0 : 200);
        }
        TabledExecutive loop = entered(63, Words.jump(63));
        Expect.same("a jump at 63 to itself", loop.ticks(47), 47);
        Expect.same("stopped at its last tick", loop.tick(), 300);
    }

    private static void setsRegister() {
        Expect.sentence("1 register a becomes n.");
        for (int n : FAR) {
            for (int a = 0; a < 4; a++) {
                Expect.same("register " + a, left(a, new int[] {Words.set(a, 77), Words.set(a, n)}), n);
            }
        }
    }

    private static void wrappingArithmetic() {
        Expect.sentence("2, 3, 4: register a becomes a + b, a - b, a * b (the registers; wrapping).");
        for (int a = 0; a < 4; a++) {
            for (int b = 0; b < 4; b++) {
                for (int v : WIDE) {
                    for (int w : WIDE) {
                        arithmetic(a, b, v, a == b ? v : w);
                    }
                }
            }
        }
    }

    private static void arithmetic(int a, int b, int v, int w) {
        int[] given = a == b ? number(a, v) : joined(number(b, w), number(a, v));
        long[] due = {(long) v + w, (long) v - w, (long) v * w};
        int[] words = {Words.add(a, b), Words.subtract(a, b), Words.multiply(a, b)};
        for (int i = 0; i < 3; i++) {
            String what = "word " + (i + 2) + " of " + a + " " + b + " with " + v + " " + w;
            Expect.same(what, left(a, joined(given, new int[] {words[i]})), (int) due[i]);
            if (a != b) {
                Expect.same(what + ": b stays", left(b, joined(given, new int[] {words[i]})), w);
            }
        }
    }

    /** Task 0 writes 112 + i to each shared word i; task 1, at 33, reads one of them. */
    private static int read(int a, int b, int v) {
        TabledExecutive x = new TabledExecutive();
        x.task(48, 33, 48, 0);
        x.task(48, 15, 48, 0);
        x.load(0, Words.set(0, 112));
        for (int i = 0; i < 16; i++) {
            Words.loadAt(x, 1 + 2 * i, Words.write(0, 0), Words.more(0, 1));
        }
        int other = (a + 1) % 4;
        Words.loadAt(x, 33, joined(number(b, v), new int[] {Words.read(a, b), Words.set(other, 3),
            Words.write(a, other)}));
        x.entry(1, 33);
        x.slot(0, 0, 33, 0);
        x.slot(1, 33, 15, 1);
        Expect.yes("good", x.check());
        Expect.same("ticks", x.ticks(46), 46);
        return x.shared(3);
    }

    private static void readsModulo16() {
        Expect.sentence("5 register a becomes the shared word number (register b) & 15.");
        for (int v : new int[] {MIN, -17, -16, -1, 0, 1, 14, 15, 16, 17, 31, 32, MAX}) {
            for (int r = 0; r < 16; r++) {
                Expect.same("read by " + v, read(r / 4, r % 4, v), 112 + Math.floorMod(v, 16));
            }
        }
    }

    private static void writesModulo16() {
        Expect.sentence("6 that shared word becomes register a.");
        for (int v : new int[] {MIN, -17, -16, -1, 0, 1, 14, 15, 16, 17, 31, 32, MAX}) {
            for (int r = 0; r < 16; r++) {
                int a = r / 4;
                int b = r % 4;
                TabledExecutive x = with(joined(new int[] {Words.set(a, 99)}, number(b, v),
                        new int[] {Words.write(a, b)}));
                x.ticks(12);
                for (int place = 0; place < 16; place++) {
                    int due = place != Math.floorMod(v, 16) ? 0 : a == b ? v : 99;
                    Expect.same("write by " + v + ", shared " + place, x.shared(place), due);
                }
            }
        }
    }

    /** Behind a jump at 20, which finds the number in the register, the job goes on at that place: it alone breaks. */
    private static void goesTo(String what, int due, int register, int number, int jump) {
        TabledExecutive x = entered(10, joined(number(register, number), new int[] {jump}));
        x.stop();
        x.load(due, Words.BREAK);
        x.check();
        Expect.same(what, x.ticks(11), 11);
        Expect.same(what + ": at " + due, x.tick(), 200);
    }

    private static void jumpsIfZero() {
        Expect.sentence("7 the place becomes n & 63 if register a is 0.");
        for (int a = 0; a < 4; a++) {
            for (int v : WIDE) {
                goesTo("if zero, " + v, v == 0 ? 40 : 21, a, v, Words.ifZero(a, 40));
            }
            for (int n : FAR) {
                goesTo("if zero, to " + n, Math.floorMod(n, 64), a, 0, Words.ifZero(a, n));
            }
        }
    }

    private static void jumpsIfBelow() {
        Expect.sentence("8 likewise if it is below 0.");
        for (int a = 0; a < 4; a++) {
            for (int v : WIDE) {
                goesTo("if below, " + v, v < 0 ? 40 : 21, a, v, Words.ifBelow(a, 40));
            }
            for (int n : FAR) {
                goesTo("if below, to " + n, Math.floorMod(n, 64), a, -1, Words.ifBelow(a, n));
            }
        }
    }

    private static void jumpsAlways() {
        Expect.sentence("9 the place becomes n & 63.");
        for (int a = 0; a < 4; a++) {
            for (int v : WIDE) {
                goesTo("jump, " + v, 40, a, v, Words.word(9, a, 0, 40));
            }
            for (int n : FAR) {
                goesTo("jump to " + n, Math.floorMod(n, 64), a, 1, Words.word(9, a, 3, n));
            }
        }
    }

    private static void addsNumber() {
        Expect.sentence("10 n is added to register a.");
        for (int v : WIDE) {
            for (int n : FAR) {
                for (int a = 0; a < 4; a++) {
                    int got = left(a, joined(number(a, v), new int[] {Words.more(a, n)}));
                    Expect.same(n + " more than " + v, got, (int) ((long) v + n));
                }
            }
        }
    }

    private static void othersBreak() {
        Expect.sentence("Others: the job BREAKS.");
        for (int o = 0; o < 16; o++) {
            for (int rest : new int[] {0, 16, 64, 240, 256, 1 << 30, MIN, ~15}) {
                Expect.same("word " + o + " with " + rest, with(o | rest).tick(), o == 0 ? 100 : o <= 10 ? 0 : 200);
            }
        }
    }

    private static void timeAtFirst() {
        Expect.sentence("RUNNING. The time is 0 at first.");
        Expect.same("a new object", new TabledExecutive().time(), 0);
        TabledExecutive x = States.planned();
        Expect.same("before the first run", x.time(), 0);
        x.check();
        Expect.same("at its start", x.time(), 0);
        x.tick();
        Expect.same("behind its first tick", x.time(), 1);
    }

    /** Each job adds 1 to a register and writes that by itself: to shared word 1, as the former job's numbers are gone. */
    private static void jobsBeginAnew() {
        Expect.sentence("has that job then, its registers 0, its place the entry, no ticks had");
        for (int end : new int[] {Words.HALT, Words.BREAK, Words.jump(60)}) {
            for (int r = 0; r < 4; r++) {
                TabledExecutive x = new TabledExecutive();
                x.task(8, 7, 8, 0);
                x.entry(0, 50);
                Words.loadAt(x, 50, Words.more(r, 1), Words.write(r, r), Words.set(0, 5), Words.set(1, 6),
                        Words.set(2, 7), Words.set(3, 8), end);
                x.load(60, Words.BREAK);
                x.slot(0, 1, 7, 0);
                x.check();
                int due = end == Words.HALT ? 100 : end == Words.BREAK ? 200 : 300;
                for (int job = 0; job < 3; job++) {
                    Expect.same("job " + job + ": idle", x.tick(), NONE);
                    Expect.same("job " + job + ": six instructions", x.ticks(6), 6);
                    for (int place = 0; place < 16; place++) {
                        Expect.same("job " + job + ": register " + r, x.shared(place), place == 1 ? 1 : 0);
                    }
                    Expect.same("job " + job + ": its last", x.tick(), due);
                }
            }
        }
    }

    /** A job has the last ticks of its window, ticks 2, 3, 0, 1 of the round, and the next one is released right then. */
    private static void formerJobIsGone() {
        Expect.sentence("(Its former one is gone; it had halted, been killed or broken.)");
        for (int w = 1; w <= 4; w++) {
            TabledExecutive x = new TabledExecutive();
            x.task(4, w, 4, 2);
            x.load(0, Words.jump(0));
            x.slot(0, Math.max(0, 2 - w), Math.min(2, w), 0);
            if (w > 2) {
                x.slot(1, 6 - w, w - 2, 0);
            }
            Expect.yes("good", x.check());
            Expect.same("before the first release", x.ticks(2), 0);
            for (int c = 0; c < 28; c++) {
                int due = c % 4 < 4 - w ? NONE : c % 4 == 3 ? 300 : 0;
                Expect.same("work " + w + ", tick " + (c + 2), x.tick(), due);
            }
        }
    }

    private static void tableComesRound() {
        Expect.sentence("Then the task whose slot covers c modulo h");
        TabledExecutive x = new TabledExecutive();
        x.task(3, 1, 3, 0);
        x.task(9, 2, 9, 0);
        Words.loadAt(x, 8, Words.set(0, 1), Words.HALT);
        x.slot(0, 2, 1, 0);
        x.slot(1, 3, 1, 0);
        x.slot(2, 8, 1, 0);
        x.slot(3, 0, 1, 1);
        x.slot(4, 7, 1, 1);
        Expect.yes("good", x.check());
        int[] due = {1, NONE, 100, 100, NONE, NONE, NONE, 101, 100};
        for (int c = 0; c < 45; c++) {
            Expect.same("tick " + c, x.tick(), due[c % 9]);
        }
        longestRound();
    }

    /** Only the ticks 0 and 239 of 240, and 48, 96, .. and 40, 80, .. between them, are covered. */
    private static void longestRound() {
        TabledExecutive x = new TabledExecutive();
        x.task(48, 1, 48, 0);
        x.task(40, 1, 40, 0);
        int[] starts = {0, 48, 96, 144, 239};
        for (int i = 0; i < 5; i++) {
            x.slot(i, starts[i], 1, 0);
        }
        for (int i = 0; i < 6; i++) {
            x.slot(5 + i, 40 * i + 1, 1, 1);
        }
        Expect.yes("good", x.check());
        for (int round = 0; round < 3; round++) {
            Expect.same("tick 0 of round " + round, x.tick(), 100);
            Expect.same("tick 1", x.tick(), 101);
            Expect.same("ticks 2 .. 238", x.ticks(237), 8);
            Expect.same("tick 239", x.tick(), 100);
        }
        Expect.same("time", x.time(), 720);
    }

    private static void onlyJobsThatHaveNotEnded() {
        Expect.sentence("if it has a job that has not ended, has the tick .. Otherwise the tick is idle.");
        TabledExecutive x = new TabledExecutive();
        x.task(4, 3, 4, 6);
        Words.loadAt(x, 0, Words.set(0, 1), Words.HALT);
        x.slot(0, 2, 2, 0);
        x.slot(1, 0, 1, 0);
        Expect.yes("good", x.check());
        int[] due = {NONE, NONE, NONE, NONE, NONE, NONE, 0, 100, NONE, NONE, 0, 100, NONE, NONE, 0, 100};
        for (int c = 0; c < due.length; c++) {
            Expect.same("tick " + c, x.tick(), due[c]);
        }
        Expect.same("done", x.count(0, 0), 3);
    }

    /** A program that ends by itself in its tick number e, and a job that may have w ticks. */
    private static void outcomes() {
        Expect.sentence("If it halts, the job is DONE; if it breaks, the job is BROKEN; otherwise, if the job has had "
                + "w ticks now, it is KILLED.");
        for (int w = 1; w <= 6; w++) {
            for (int e = 1; e <= 8; e++) {
                for (int last : new int[] {Words.HALT, Words.BREAK}) {
                    outcome(w, e, last);
                }
            }
        }
    }

    private static void outcome(int w, int e, int last) {
        TabledExecutive x = new TabledExecutive();
        x.task(7, w, 7, 0);
        for (int place = 0; place < 8; place++) {
            x.load(place, place == e - 1 ? last : Words.more(0, 1));
        }
        x.slot(0, 0, w, 0);
        x.check();
        for (int c = 1; c <= 14; c++) {
            int n = (c - 1) % 7 + 1;
            int ends = Math.min(w, e);
            int how = e > w ? 300 : last == Words.HALT ? 100 : 200;
            Expect.same("work " + w + " ends at " + e + " tick " + c, x.tick(), n < ends ? 0 : n == ends ? how : NONE);
        }
        Expect.same("done", x.count(0, 0), e <= w && last == Words.HALT ? 2 : 0);
        Expect.same("broken", x.count(0, 1), e <= w && last == Words.BREAK ? 2 : 0);
        Expect.same("killed", x.count(0, 2), e > w ? 2 : 0);
    }

    private static void timeGoesOn() {
        Expect.sentence("Then the time is c + 1.");
        TabledExecutive x = States.planned();
        x.check();
        for (int c = 0; c < 30; c++) {
            Expect.same("time", x.time(), c);
            x.tick();
        }
        Expect.same("time", x.time(), 30);
    }
}
