/** The boundaries and the refused calls that promises 1 to 6 and 8 to 11 name, a sentence at a time. */
public final class EditEdgeTest {
    private static final int MIN = Integer.MIN_VALUE;
    private static final int MAX = Integer.MAX_VALUE;

    public static void main(String[] args) {
        newObject();
        loadBecomes();
        loadOnlyInEdit();
        loadPlaces();
        taskEntryAtFirst();
        taskOnlyInEdit();
        sixTasks();
        taskRefused();
        taskLeavesTable();
        entryBecomes();
        entryOnlyInEdit();
        entryOfNoTask();
        entryOfNoPlace();
        clearTakesAll();
        clearKeeps();
        clearOnlyInEdit();
        roundAbove240();
        slotBecomes();
        slotAppended();
        slotOnlyInEdit();
        slotIsNeither();
        slotSixty();
        slotOfNoTask();
        slotStart();
        slotLength();
        slotFirstExceptionWins();
        dropTakesTheLast();
        dropOnlyInEdit();
        dropOfNone();
        slots();
        slotOfParts();
        slotOfNoSlot();
        slotOfNoPart();
        Expect.end();
    }

    private static TabledExecutive oneTask() {
        TabledExecutive x = new TabledExecutive();
        x.task(4, 1, 4, 0);
        return x;
    }

    private static void newObject() {
        Expect.sentence("Promise 1: Mode EDIT: no tasks, no slots, code and shared words 0.");
        TabledExecutive x = new TabledExecutive();
        Expect.same("slots", x.slots(), 0);
        Expect.same("round", x.round(), 1);
        Expect.same("time", x.time(), 0);
        for (int i = 0; i < 16; i++) {
            Expect.same("shared " + i, x.shared(i), 0);
        }
        Refused.state("RUN's tick", TabledExecutive::new, TabledExecutive::tick);
        Refused.state("RUN's ticks", TabledExecutive::new, y -> y.ticks(1));
        Refused.state("RUN's stop", TabledExecutive::new, TabledExecutive::stop);
        Refused.state("a drop of none", TabledExecutive::new, TabledExecutive::drop);
        Refused.index("the entry of task 0", TabledExecutive::new, y -> y.entry(0, 0));
        Refused.index("the counts of task 0", TabledExecutive::new, y -> y.count(0, 0));
        Refused.index("slot 0", TabledExecutive::new, y -> y.slotOf(0, 0));
        Refused.index("a slot of task 0", TabledExecutive::new, y -> y.slot(0, 0, 1, 0));
        twoObjectsAreTwo();
    }

    private static void twoObjectsAreTwo() {
        String fresh = Refused.look(new TabledExecutive());
        TabledExecutive used = States.running();
        Expect.text("a new object beside one that runs", Refused.look(new TabledExecutive()), fresh);
        Expect.same("and that one goes on", used.time(), 13);
    }

    /** Every place becomes a break, then a halt, then a word that goes on; the others stay. */
    private static void loadBecomes() {
        Expect.sentence("Promise 2: A word of the code becomes v.");
        int[] words = {Words.BREAK, Words.HALT, Words.set(0, 1), MIN, MAX, -1};
        int[] due = {200, 100, 300, 100, 200, 200};
        for (int place = 0; place < 64; place++) {
            TabledExecutive x = new TabledExecutive();
            x.task(1, 1, 1, 0);
            x.slot(0, 0, 1, 0);
            for (int i = 0; i < words.length; i++) {
                x.load(place, words[i]);
                Expect.same("word " + words[i] + " at " + place, ending(x, place), due[i]);
                Expect.same("the word before it", ending(x, (place + 63) % 64), 100);
                Expect.same("the word behind it", ending(x, (place + 1) % 64), 100);
            }
        }
    }

    private static int ending(TabledExecutive x, int place) {
        x.entry(0, place);
        x.check();
        int answer = x.tick();
        x.stop();
        return answer;
    }

    private static void loadOnlyInEdit() {
        Expect.sentence("Promise 2: EDIT. IllegalState");
        for (int place : new int[] {0, 16, 63, -1, 64, MIN, MAX}) {
            Refused.state("load at " + place + " in RUN", States::running, x -> x.load(place, Words.BREAK));
            Refused.state("load at " + place + " in RUN", States::running, x -> x.load(place, Words.HALT));
        }
    }

    private static void loadPlaces() {
        Expect.sentence("Promise 2: IndexOutOfBounds: place is not 0 .. 63.");
        for (int place : new int[] {-1, 64, -64, 65, 127, 128, MIN, MAX}) {
            Refused.index("load at " + place, States::stopped, x -> x.load(place, Words.BREAK));
            Refused.index("load at " + place + " at first", TabledExecutive::new, x -> x.load(place, Words.BREAK));
        }
    }

    private static void taskEntryAtFirst() {
        Expect.sentence("Promise 3: A task more: its number; its entry is 8 times that at first.");
        for (int broken = 0; broken < 6; broken++) {
            TabledExecutive x = new TabledExecutive();
            for (int t = 0; t < 6; t++) {
                Expect.same("its number", x.task(6, 1, 6, 0), t);
                x.slot(t, t, 1, t);
            }
            x.load(8 * broken, Words.BREAK);
            x.check();
            for (int t = 0; t < 6; t++) {
                Expect.same("task " + t + ", a break at " + 8 * broken, x.tick(), (t == broken ? 200 : 100) + t);
            }
        }
    }

    private static void taskOnlyInEdit() {
        Expect.sentence("Promise 3: EDIT. IllegalState");
        Refused.state("task in RUN", States::running, x -> x.task(6, 1, 6, 0));
        Refused.state("a wrong task in RUN", States::running, x -> x.task(0, 0, 0, -1));
        Refused.state("task in RUN without tasks", States::runningEmpty, x -> x.task(1, 1, 1, 0));
    }

    private static void sixTasks() {
        Expect.sentence("Promise 3: IllegalState, also if there are 6");
        TabledExecutive five = States.planned();
        five.task(6, 1, 6, 0);
        five.task(6, 1, 6, 0);
        Expect.same("with 5 there is room for one", five.task(6, 1, 6, 0), 5);
        Expect.state("with 6 not", () -> five.task(6, 1, 6, 0));
        Refused.state("a right task", States::sixTasks, x -> x.task(1, 1, 1, 0));
        Refused.state("a wrong task", States::sixTasks, x -> x.task(0, 1, 1, 0));
        Refused.state("a task that is all wrong", States::sixTasks, x -> x.task(49, 0, 50, 49));
    }

    private static void taskRefused() {
        Expect.sentence("Promise 3: IllegalArgument: something is not as said.");
        int[][] wrong = {{0, 1, 1, 0}, {49, 1, 1, 0}, {6, 0, 3, 0}, {6, 4, 3, 0}, {6, 1, 7, 0}, {6, 1, 0, 0},
            {6, 1, 6, -1}, {6, 1, 6, 49}, {-6, -6, -6, 0}, {MIN, MIN, MIN, MIN}, {MAX, MAX, MAX, MAX}};
        for (int[] w : wrong) {
            String what = "task " + java.util.Arrays.toString(w);
            Refused.argument(what, States::stopped, x -> x.task(w[0], w[1], w[2], w[3]));
            Refused.argument(what + " at first", TabledExecutive::new, x -> x.task(w[0], w[1], w[2], w[3]));
        }
    }

    private static void taskLeavesTable() {
        Expect.sentence("Promise 3: The table stays.");
        TabledExecutive x = States.planned();
        StringBuilder before = new StringBuilder();
        for (int i = 0; i < x.slots(); i++) {
            before.append(i == 0 ? "" : " ").append(x.slotOf(i, 0)).append('+').append(x.slotOf(i, 1)).append(':')
                    .append(x.slotOf(i, 2));
        }
        Expect.same("its number", x.task(48, 1, 48, 0), 3);
        Expect.table("with a task more", x, before.toString());
        Expect.no("and it is not good for four tasks", x.check());
        x.task(47, 1, 47, 0);
        Expect.table("with a round above 240", x, before.toString());
    }

    private static void entryBecomes() {
        Expect.sentence("Promise 4: A task's entry.");
        TabledExecutive x = States.sixTasks();
        for (int t = 0; t < 6; t++) {
            x.entry(t, 63);
            x.entry(t, t == 4 ? 0 : 63 - t);
        }
        for (int place = 0; place < 64; place++) {
            x.load(place, place % 2 == 0 ? Words.BREAK : Words.HALT);
        }
        x.check();
        for (int t = 0; t < 6; t++) {
            boolean halts = t == 0 || t == 2;
            Expect.same("task " + t, x.tick(), (halts ? 100 : 200) + t);
        }
    }

    private static void entryOnlyInEdit() {
        Expect.sentence("Promise 4: EDIT. IllegalState");
        Refused.state("entry in RUN", States::running, x -> x.entry(0, 16));
        Refused.state("entry in RUN, no such task", States::running, x -> x.entry(3, 16));
        Refused.state("entry in RUN, no such place", States::running, x -> x.entry(0, 64));
        Refused.state("entry in RUN, neither", States::running, x -> x.entry(-1, -1));
        Refused.state("entry in RUN without tasks", States::runningEmpty, x -> x.entry(0, 0));
    }

    private static void entryOfNoTask() {
        Expect.sentence("Promise 4: IndexOutOfBounds: there is no such task");
        for (int task : new int[] {-1, 3, 4, 5, 6, MIN, MAX}) {
            Refused.index("entry of task " + task + " of 3", States::stopped, x -> x.entry(task, 16));
        }
        for (int task : new int[] {-1, 6, 7}) {
            Refused.index("entry of task " + task + " of 6", States::sixTasks, x -> x.entry(task, 1));
        }
        TabledExecutive y = States.sixTasks();
        y.entry(5, 1);
        y.clear();
        Expect.index("entry of a task that was cleared away", () -> y.entry(0, 1));
        y.task(1, 1, 1, 0);
        y.entry(0, 0);
        Expect.index("entry of task 1 of 1", () -> y.entry(1, 0));
    }

    private static void entryOfNoPlace() {
        Expect.sentence("Promise 4: IndexOutOfBounds: there is no such task or place.");
        for (int place : new int[] {-1, 64, 65, 80, -48, MIN, MAX}) {
            for (int task = 0; task < 3; task++) {
                int t = task;
                Refused.index("entry " + place, States::stopped, x -> x.entry(t, place));
            }
        }
        Refused.index("neither", States::stopped, x -> x.entry(3, 64));
    }

    private static void clearTakesAll() {
        Expect.sentence("Promise 5: There are no tasks any more, and no slots");
        for (Refused.Maker maker : new Refused.Maker[] {TabledExecutive::new, States::planned, States::stopped,
            States::sixTasks, States::sixtySlots}) {
            TabledExecutive x = maker.make();
            x.clear();
            Expect.same("round", x.round(), 1);
            Expect.same("slots", x.slots(), 0);
            Expect.index("task 0", () -> x.count(0, 0));
            Expect.index("slot 0", () -> x.slotOf(0, 0));
            Expect.state("a drop", x::drop);
            Expect.yes("good", x.check());
            Expect.same("all idle", x.ticks(500), 0);
            x.stop();
            for (int t = 0; t < 6; t++) {
                Expect.same("room for 6 tasks", x.task(1, 1, 1, 0), t);
            }
            x.clear();
            x.clear();
            Expect.same("twice", x.round(), 1);
        }
    }

    private static void clearKeeps() {
        Expect.sentence("Promise 5: (code and shared words stay)");
        TabledExecutive x = States.stopped();
        int[] words = new int[16];
        for (int i = 0; i < 16; i++) {
            words[i] = x.shared(i);
        }
        Expect.yes("a word was written", words[0] != 0);
        x.clear();
        for (int i = 0; i < 16; i++) {
            Expect.same("shared " + i, x.shared(i), words[i]);
        }
        x.task(1, 1, 1, 0);
        x.slot(0, 0, 1, 0);
        for (int place = 0; place < 64; place++) {
            boolean loaded = place <= 2 || place == 40 || place == 63;
            Expect.same("the word at " + place, ending(x, place), place == 16 ? 200 : loaded ? 300 : 100);
        }
    }

    private static void clearOnlyInEdit() {
        Expect.sentence("Promise 5: EDIT. .. IllegalState.");
        Refused.state("clear in RUN", States::running, TabledExecutive::clear);
        Refused.state("clear in RUN without tasks", States::runningEmpty, TabledExecutive::clear);
    }

    /** Between 240 and 246 there is no number that periods up to 48 have as their least common multiple. */
    private static void roundAbove240() {
        Expect.sentence("Promise 6: h; LONG if it is above 240.");
        int[][] sets = {{48, 40}, {15, 16}, {5, 48}, {48, 24, 16, 15, 10, 4}, {14, 17}, {34, 7}, {13, 18}};
        int[] due = {240, 240, 240, 240, 238, 238, 234};
        for (int i = 0; i < sets.length; i++) {
            Expect.same("round " + due[i], withPeriods(sets[i]).round(), due[i]);
        }
        int[][] above = {{6, 41}, {41, 6}, {13, 19}, {31, 8}, {9, 28}, {48, 47}, {48, 32, 5}, {32, 15},
            {48, 40, 7}, {48, 47, 46, 45, 43, 41}, {47, 43, 41, 37, 31, 29}, {48, 40, 36, 42, 44, 26}};
        for (int[] periods : above) {
            Expect.same("above 240", withPeriods(periods).round(), TabledExecutive.LONG);
        }
        TabledExecutive x = withPeriods(48, 40);
        x.task(7, 1, 1, 0);
        Expect.same("by a third task", x.round(), TabledExecutive.LONG);
        x.clear();
        Expect.same("after clear", x.round(), 1);
        Expect.same("in RUN", States.running().round(), 12);
    }

    private static TabledExecutive withPeriods(int... periods) {
        TabledExecutive x = new TabledExecutive();
        for (int p : periods) {
            x.task(p, 1, p, 3);
        }
        return x;
    }

    private static void slotBecomes() {
        Expect.sentence("Promise 8: Slot i becomes this");
        TabledExecutive x = States.sixtySlots();
        for (int i : new int[] {0, 1, 30, 58, 59}) {
            x.slot(i, 7, 9, 1 - i % 2);
        }
        Expect.same("slots", x.slots(), 60);
        for (int i = 0; i < 60; i++) {
            boolean changed = i <= 1 || i == 30 || i >= 58;
            Expect.same("start of " + i, x.slotOf(i, 0), changed ? 7 : 239 - i);
            Expect.same("length of " + i, x.slotOf(i, 1), changed ? 9 : 1 + i);
            Expect.same("task of " + i, x.slotOf(i, 2), changed ? 1 - i % 2 : i % 2);
        }
    }

    private static void slotAppended() {
        Expect.sentence("Promise 8: or is appended, if i is how many there are.");
        TabledExecutive x = oneTask();
        x.slot(0, 1, 1, 0);
        Expect.table("the first", x, "1+1:0");
        x.slot(1, 3, 5, 0);
        Expect.table("the second", x, "1+1:0 3+5:0");
        x.slot(1, 4, 4, 0);
        Expect.table("the second again", x, "1+1:0 4+4:0");
        x.slot(2, 0, 240, 0);
        Expect.table("the third", x, "1+1:0 4+4:0 0+240:0");
    }

    private static void slotOnlyInEdit() {
        Expect.sentence("Promise 8: EDIT. IllegalState");
        int[] i = {0, 5, -1, 60, 0, 0, 0, -1};
        int[] start = {0, 1, 0, 0, 240, 0, 0, -1};
        int[] length = {1, 1, 1, 1, 1, 0, 1, 0};
        int[] task = {0, 2, 0, 0, 0, 0, 3, -1};
        for (int n = 0; n < i.length; n++) {
            int k = n;
            Refused.state("slot in RUN " + n, States::running, x -> x.slot(i[k], start[k], length[k], task[k]));
        }
        Refused.state("slot in RUN without tasks", States::runningEmpty, x -> x.slot(0, 0, 1, 0));
    }

    private static void slotIsNeither() {
        Expect.sentence("Promise 8: IndexOutOfBounds: i is neither");
        int many = States.stopped().slots();
        for (int i : new int[] {-1, many + 1, many + 2, 59, 60, 61, MIN, MAX}) {
            Refused.index("slot " + i + " of " + many, States::stopped, x -> x.slot(i, 0, 1, 0));
        }
        for (int i : new int[] {-1, 1, 2, 59, 60}) {
            Refused.index("slot " + i + " of none", EditEdgeTest::oneTask, x -> x.slot(i, 0, 1, 0));
        }
    }

    private static void slotSixty() {
        Expect.sentence("Promise 8: IndexOutOfBounds: i is neither, or 60");
        for (int i : new int[] {60, 61, -1, MAX}) {
            Refused.index("slot " + i + " of 60", States::sixtySlots, x -> x.slot(i, 0, 1, 0));
        }
        TabledExecutive x = States.sixtySlots();
        x.drop();
        Expect.index("slot 60 of 59", () -> x.slot(60, 0, 1, 0));
        x.slot(59, 0, 1, 0);
        Expect.same("slot 59 of 59 is appended", x.slots(), 60);
        Expect.index("slot 60 of 60", () -> x.slot(60, 0, 1, 0));
    }

    private static void slotOfNoTask() {
        Expect.sentence("Promise 8: IndexOutOfBounds: .. or there is no such task");
        for (int task : new int[] {-1, 3, 5, 6, MIN, MAX}) {
            Refused.index("slot 0 of task " + task, States::stopped, x -> x.slot(0, 0, 1, task));
            Refused.index("a slot more of task " + task, States::stopped, x -> x.slot(x.slots(), 0, 1, task));
        }
        Refused.index("task 6 of 6", States::sixTasks, x -> x.slot(0, 0, 1, 6));
        Refused.index("task 0 of none", TabledExecutive::new, x -> x.slot(0, 0, 1, 0));
        TabledExecutive y = States.sixTasks();
        y.slot(0, 0, 1, 5);
        Expect.same("task 5 of 6", y.slotOf(0, 2), 5);
    }

    private static void slotStart() {
        Expect.sentence("Promise 8: IllegalArgument: start is not 0 .. 239");
        for (int start : new int[] {-1, 240, 241, MIN, MAX}) {
            Refused.argument("start " + start, States::stopped, x -> x.slot(0, start, 1, 0));
            Refused.argument("start " + start, EditEdgeTest::oneTask, x -> x.slot(0, start, 1, 0));
        }
        TabledExecutive y = oneTask();
        for (int start = 0; start < 240; start++) {
            y.slot(0, start, 240, 0);
            Expect.same("start", y.slotOf(0, 0), start);
        }
    }

    private static void slotLength() {
        Expect.sentence("Promise 8: IllegalArgument: .. or length not 1 .. 240.");
        for (int length : new int[] {0, -1, 241, 242, MIN, MAX}) {
            Refused.argument("length " + length, States::stopped, x -> x.slot(0, 0, length, 0));
            Refused.argument("length " + length, EditEdgeTest::oneTask, x -> x.slot(0, 239, length, 0));
        }
        TabledExecutive y = oneTask();
        for (int length = 1; length <= 240; length++) {
            y.slot(0, 239, length, 0);
            Expect.same("length", y.slotOf(0, 1), length);
        }
    }

    private static void slotFirstExceptionWins() {
        Expect.sentence("where it lists more than one exception, the first one wins.");
        Refused.index("no such slot, start", States::stopped, x -> x.slot(-1, 240, 1, 0));
        Refused.index("no such slot, length", States::stopped, x -> x.slot(59, 0, 0, 0));
        Refused.index("no such task, start", States::stopped, x -> x.slot(0, -1, 1, 3));
        Refused.index("no such task, length", States::stopped, x -> x.slot(0, 0, 241, -1));
        Refused.index("60, start and length", States::sixtySlots, x -> x.slot(60, 240, 241, 0));
        Refused.index("all", States::stopped, x -> x.slot(-1, -1, 0, -1));
    }

    private static void dropTakesTheLast() {
        Expect.sentence("Promise 9: The last slot goes.");
        TabledExecutive x = oneTask();
        x.slot(0, 9, 1, 0);
        x.slot(1, 5, 2, 0);
        x.slot(2, 7, 3, 0);
        x.drop();
        Expect.table("two left", x, "9+1:0 5+2:0");
        x.drop();
        Expect.table("one left", x, "9+1:0");
        x.drop();
        Expect.table("none left", x, "");
        TabledExecutive y = States.sixtySlots();
        for (int many = 59; many >= 0; many--) {
            y.drop();
            Expect.same("left of 60", y.slots(), many);
        }
    }

    private static void dropOnlyInEdit() {
        Expect.sentence("Promise 9: EDIT. IllegalState");
        Refused.state("drop in RUN", States::running, TabledExecutive::drop);
        Refused.state("drop in RUN of none", States::runningEmpty, TabledExecutive::drop);
    }

    private static void dropOfNone() {
        Expect.sentence("Promise 9: IllegalState, also if there is none.");
        Refused.state("drop of none", EditEdgeTest::oneTask, TabledExecutive::drop);
        TabledExecutive x = oneTask();
        x.slot(0, 0, 1, 0);
        x.drop();
        Expect.state("drop of none left", x::drop);
        x.slot(0, 3, 1, 0);
        Expect.table("the first slot again", x, "3+1:0");
        x.drop();
        Expect.same("none left", x.slots(), 0);
    }

    private static void slots() {
        Expect.sentence("Promise 10: How many slots there are.");
        TabledExecutive x = oneTask();
        Expect.same("none", x.slots(), 0);
        for (int i = 0; i < 60; i++) {
            x.slot(i, i, 1, 0);
            Expect.same("one more", x.slots(), i + 1);
            x.slot(i, i, 2, 0);
            Expect.same("not one more", x.slots(), i + 1);
        }
        Expect.yes("in RUN", States.running().slots() == States.planned().slots());
        Expect.same("in RUN without tasks", States.runningEmpty().slots(), 0);
    }

    private static void slotOfParts() {
        Expect.sentence("Promise 11: Of slot i: 0 its start, 1 its length, 2 its task.");
        TabledExecutive x = States.sixTasks();
        x.slot(0, 239, 240, 5);
        x.slot(1, 0, 1, 0);
        Expect.same("start", x.slotOf(0, 0), 239);
        Expect.same("length", x.slotOf(0, 1), 240);
        Expect.same("task", x.slotOf(0, 2), 5);
        Expect.same("start", x.slotOf(1, 0), 0);
        Expect.same("length", x.slotOf(1, 1), 1);
        Expect.same("task", x.slotOf(1, 2), 0);
        TabledExecutive y = States.running();
        Expect.same("in RUN", y.slotOf(0, 0), 0);
    }

    private static void slotOfNoSlot() {
        Expect.sentence("Promise 11: IndexOutOfBounds: there is no such slot");
        int many = States.running().slots();
        for (int i : new int[] {-1, many, many + 1, 59, 60, MIN, MAX}) {
            for (int what = -1; what <= 3; what++) {
                int part = what;
                Refused.index("slot " + i + " of " + many, States::stopped, x -> x.slotOf(i, part));
                Refused.index("slot " + i + " of " + many, States::running, x -> x.slotOf(i, part));
            }
        }
        for (int i : new int[] {-1, 60, 61}) {
            Refused.index("slot " + i + " of 60", States::sixtySlots, x -> x.slotOf(i, 0));
        }
        TabledExecutive y = States.sixtySlots();
        Expect.same("slot 59 of 60", y.slotOf(59, 1), 60);
        y.drop();
        Expect.index("slot 59 of 59", () -> y.slotOf(59, 1));
        Expect.same("slot 58 of 59", y.slotOf(58, 1), 59);
    }

    private static void slotOfNoPart() {
        Expect.sentence("Promise 11: IndexOutOfBounds: .. or what is not 0 .. 2.");
        for (int what : new int[] {-1, 3, 4, MIN, MAX}) {
            Refused.index("part " + what, States::stopped, x -> x.slotOf(0, what));
            Refused.index("part " + what + " in RUN", States::running, x -> x.slotOf(0, what));
        }
    }
}
