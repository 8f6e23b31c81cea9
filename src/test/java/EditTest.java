/** Promises 1 to 6 and 8 to 11: a new object, the code, the tasks, and the table made by hand. */
public final class EditTest {
    private static final int MIN = Integer.MIN_VALUE;
    private static final int MAX = Integer.MAX_VALUE;

    public static void main(String[] args) {
        newObject();
        load();
        task();
        taskLeavesTable();
        entry();
        clear();
        round();
        slot();
        sixtySlots();
        drop();
        slotOf();
        Expect.end();
    }

    private static TabledExecutive inRun() {
        TabledExecutive x = new TabledExecutive();
        x.task(4, 1, 4, 0);
        x.slot(0, 0, 1, 0);
        Expect.yes("the table is good", x.check());
        return x;
    }

    private static void newObject() {
        TabledExecutive x = new TabledExecutive();
        Expect.same("new: slots", x.slots(), 0);
        Expect.same("new: round", x.round(), 1);
        Expect.same("new: time", x.time(), 0);
        for (int i = 0; i < 16; i++) {
            Expect.same("new: shared", x.shared(i), 0);
        }
        Expect.index("new: no task", () -> x.count(0, 0));
        Expect.index("new: no slot", () -> x.slotOf(0, 0));
        Expect.state("new: EDIT, no tick", x::tick);
        Expect.state("new: EDIT, no ticks", () -> x.ticks(1));
        Expect.state("new: EDIT, no stop", x::stop);
        codeIsZero();
    }

    private static void codeIsZero() {
        for (int place = 0; place < 64; place++) {
            TabledExecutive x = new TabledExecutive();
            x.task(1, 1, 1, 0);
            x.entry(0, place);
            x.slot(0, 0, 1, 0);
            Expect.yes("new: good", x.check());
            Expect.same("new: the word at " + place + " halts", x.tick(), 100);
        }
    }

    private static void load() {
        for (int place : new int[] {0, 1, 31, 63}) {
            TabledExecutive x = new TabledExecutive();
            x.task(1, 1, 1, 0);
            x.entry(0, place);
            x.load(place, Words.BREAK);
            x.load(place, Words.set(0, 1));
            x.load(place, Words.BREAK);
            x.slot(0, 0, 1, 0);
            x.check();
            Expect.same("load " + place, x.tick(), 200);
            Expect.state("load in RUN", () -> x.load(place, 0));
            Expect.state("load in RUN, wrong place", () -> x.load(64, 0));
            Expect.same("load that threw changed nothing", x.tick(), 200);
        }
        TabledExecutive y = new TabledExecutive();
        for (int place : new int[] {-1, 64, MIN, MAX}) {
            Expect.index("load at " + place, () -> y.load(place, 1));
        }
    }

    private static void task() {
        TabledExecutive x = new TabledExecutive();
        int[][] bad = {{0, 1, 1, 0}, {-1, 1, 1, 0}, {49, 1, 1, 0}, {MIN, 1, 1, 0}, {MAX, 1, 1, 0}, {5, 0, 3, 0},
            {5, -1, 3, 0}, {5, 4, 3, 0}, {5, 1, 6, 0}, {5, 6, 6, 0}, {5, 1, 0, 0}, {5, 1, MAX, 0}, {5, MIN, 3, 0},
            {5, 1, 5, -1}, {5, 1, 5, 49}, {5, 1, 5, MIN}, {5, 1, 5, MAX}};
        for (int[] b : bad) {
            Expect.argument("task " + java.util.Arrays.toString(b), () -> x.task(b[0], b[1], b[2], b[3]));
        }
        Expect.same("a task that threw is none", x.round(), 1);
        Expect.same("task 0: all least", x.task(1, 1, 1, 0), 0);
        Expect.same("task 1: all greatest", x.task(48, 48, 48, 48), 1);
        for (int t = 2; t < 6; t++) {
            Expect.same("task " + t, x.task(6, 1, 2, 3), t);
        }
        Expect.state("a seventh", () -> x.task(6, 1, 2, 3));
        Expect.state("a seventh, wrong: IllegalState wins", () -> x.task(0, 0, 0, -1));
        TabledExecutive y = inRun();
        Expect.state("task in RUN", () -> y.task(4, 1, 4, 0));
        Expect.state("task in RUN, wrong", () -> y.task(0, 1, 4, 0));
        Expect.index("a task that threw is none", () -> y.count(1, 0));
        entriesAtFirst();
    }

    private static void entriesAtFirst() {
        TabledExecutive x = new TabledExecutive();
        for (int t = 0; t < 6; t++) {
            x.task(6, 1, 6, 0);
            x.load(8 * t, Words.BREAK);
            x.slot(t, t, 1, t);
        }
        Expect.yes("six tasks: good", x.check());
        for (int t = 0; t < 6; t++) {
            Expect.same("entry of task " + t + " is 8 times its number", x.tick(), 200 + t);
        }
    }

    private static void taskLeavesTable() {
        TabledExecutive x = new TabledExecutive();
        x.task(4, 1, 4, 0);
        x.slot(0, 2, 1, 0);
        x.task(4, 1, 4, 0);
        Expect.table("the table stays", x, "2+1:0");
    }

    private static void entry() {
        TabledExecutive x = new TabledExecutive();
        Expect.index("entry without tasks", () -> x.entry(0, 0));
        x.task(2, 1, 1, 0);
        x.task(2, 1, 1, 1);
        x.entry(0, 63);
        x.entry(1, 0);
        x.load(63, Words.BREAK);
        for (int t : new int[] {-1, 2, 6, MIN, MAX}) {
            Expect.index("entry of task " + t, () -> x.entry(t, 5));
        }
        for (int place : new int[] {-1, 64, MIN, MAX}) {
            Expect.index("entry at " + place, () -> x.entry(0, place));
        }
        x.synthesize();
        x.check();
        Expect.same("entry 63", x.tick(), 200);
        Expect.same("entry 0", x.tick(), 101);
        Expect.state("entry in RUN", () -> x.entry(0, 0));
        Expect.state("entry in RUN, wrong task", () -> x.entry(2, 64));
        Expect.same("entry that threw changed nothing", x.tick(), 200);
    }

    private static void clear() {
        TabledExecutive x = new TabledExecutive();
        x.clear();
        x.task(4, 2, 4, 0);
        Words.loadAt(x, 0, Words.set(1, 9), Words.write(1, 0));
        x.entry(0, 0);
        x.synthesize();
        x.check();
        Expect.state("clear in RUN", x::clear);
        Expect.same("two instructions", x.ticks(4), 2);
        x.stop();
        x.clear();
        Expect.same("clear: no slots", x.slots(), 0);
        Expect.same("clear: no tasks", x.round(), 1);
        Expect.index("clear: no task to count", () -> x.count(0, 0));
        Expect.same("clear: shared words stay", x.shared(0), 9);
        Expect.same("clear: the time stays", x.time(), 4);
        Expect.same("clear: numbers from 0", x.task(1, 1, 1, 0), 0);
        Expect.same("the new task 0 was added later", x.count(0, 2), 0);
        x.entry(0, 1);
        Expect.same("clear: a table again", x.synthesize(), 1);
        Expect.yes("clear: good again", x.check());
        Expect.same("clear: the code stays", x.tick(), 300);
        clearResetsEntry();
    }

    private static void clearResetsEntry() {
        TabledExecutive x = new TabledExecutive();
        x.task(1, 1, 1, 0);
        x.entry(0, 9);
        x.load(9, Words.BREAK);
        x.clear();
        x.task(1, 1, 1, 0);
        x.synthesize();
        x.check();
        Expect.same("a new task 0 has its entry at 0", x.tick(), 100);
    }

    private static void round() {
        int[][] rounds = {{1, 1}, {48, 48}, {4, 6, 12}, {40, 48, 240}, {16, 15, 240}, {48, 47, -3}, {16, 31, -3},
            {2, 3, 5, 7, 210}, {2, 3, 5, 7, 11, -3}, {48, 47, 46, 45, 43, 41, -3}, {9, 27, 27}, {22, 11, 22},
            {13, 19, -3}, {14, 17, 238}, {48, 5, 240}, {5, 10, 20, 8, 40, 16, 80}, {27, 9, 10, -3}};
        for (int[] row : rounds) {
            TabledExecutive x = new TabledExecutive();
            for (int i = 0; i < row.length - 1; i++) {
                x.task(row[i], 1, 1, 7);
            }
            Expect.same("round of " + java.util.Arrays.toString(row), x.round(), row[row.length - 1]);
        }
        Expect.same("round in RUN", inRun().round(), 4);
    }

    private static void slot() {
        TabledExecutive x = new TabledExecutive();
        Expect.index("slot without tasks", () -> x.slot(0, 0, 1, 0));
        x.task(4, 1, 4, 0);
        x.task(4, 1, 4, 0);
        for (int i : new int[] {-1, 1, 60, 61, MIN, MAX}) {
            Expect.index("slot " + i + " of none", () -> x.slot(i, 0, 1, 0));
        }
        x.slot(0, 239, 240, 1);
        Expect.table("slot appended", x, "239+240:1");
        x.slot(1, 0, 1, 0);
        x.slot(0, 3, 2, 0);
        Expect.table("slot changed", x, "3+2:0 0+1:0");
        for (int start : new int[] {-1, 240, MIN, MAX}) {
            Expect.argument("start " + start, () -> x.slot(0, start, 1, 0));
        }
        for (int length : new int[] {0, -1, 241, MIN, MAX}) {
            Expect.argument("length " + length, () -> x.slot(2, 0, length, 0));
        }
        for (int t : new int[] {-1, 2, MIN, MAX}) {
            Expect.index("slot of task " + t, () -> x.slot(0, 0, 1, t));
            Expect.index("IndexOutOfBounds wins", () -> x.slot(0, -1, 0, t));
        }
        Expect.index("IndexOutOfBounds wins", () -> x.slot(3, 240, 241, 0));
        Expect.table("slot that threw changed nothing", x, "3+2:0 0+1:0");
        TabledExecutive y = inRun();
        Expect.state("slot in RUN", () -> y.slot(0, 1, 1, 0));
        Expect.state("slot in RUN, wrong", () -> y.slot(-1, -1, 0, 9));
        Expect.table("slot that threw changed nothing", y, "0+1:0");
    }

    private static void sixtySlots() {
        TabledExecutive x = new TabledExecutive();
        x.task(4, 1, 4, 0);
        for (int i = 0; i < 60; i++) {
            x.slot(i, i, 1, 0);
        }
        Expect.same("60 slots", x.slots(), 60);
        Expect.index("slot 60 of 60", () -> x.slot(60, 1, 1, 0));
        Expect.index("slot 60 of 60, wrong too", () -> x.slot(60, -1, 1, 0));
        x.slot(59, 7, 8, 0);
        Expect.same("slot 59 changed", x.slotOf(59, 0), 7);
        Expect.same("slots stay 60", x.slots(), 60);
        x.drop();
        Expect.index("slot 60 of 59", () -> x.slot(60, 1, 1, 0));
        x.slot(59, 9, 1, 0);
        Expect.same("slot 59 appended", x.slotOf(59, 0), 9);
    }

    private static void drop() {
        TabledExecutive x = new TabledExecutive();
        Expect.state("drop of none", x::drop);
        x.task(4, 1, 4, 0);
        x.slot(0, 3, 1, 0);
        x.slot(1, 1, 1, 0);
        x.drop();
        Expect.table("the last slot goes", x, "3+1:0");
        x.drop();
        Expect.same("drop: none left", x.slots(), 0);
        Expect.state("drop of none left", x::drop);
        TabledExecutive y = inRun();
        Expect.state("drop in RUN", y::drop);
        Expect.same("drop that threw changed nothing", y.slots(), 1);
    }

    private static void slotOf() {
        TabledExecutive x = new TabledExecutive();
        x.task(4, 1, 4, 0);
        x.task(4, 1, 4, 0);
        x.slot(0, 5, 6, 1);
        Expect.same("slotOf start", x.slotOf(0, 0), 5);
        Expect.same("slotOf length", x.slotOf(0, 1), 6);
        Expect.same("slotOf task", x.slotOf(0, 2), 1);
        for (int i : new int[] {-1, 1, 60, MIN, MAX}) {
            Expect.index("slotOf slot " + i, () -> x.slotOf(i, 0));
        }
        for (int what : new int[] {-1, 3, MIN, MAX}) {
            Expect.index("slotOf what " + what, () -> x.slotOf(0, what));
        }
        x.drop();
        Expect.index("slotOf a dropped slot", () -> x.slotOf(0, 0));
        Expect.table("slotOf in RUN", inRun(), "0+1:0");
    }
}
