/** The boundaries and the refused calls that promises 12 to 18 name, a sentence at a time. */
public final class RunEdgeTest {
    private static final int MIN = Integer.MIN_VALUE;
    private static final int MAX = Integer.MAX_VALUE;
    private static final int NONE = TabledExecutive.NONE;

    public static void main(String[] args) {
        statesAreRich();
        checkAnswers();
        checkAbove240();
        checkWithoutTasks();
        checkBeginsRun();
        checkOnlyInEdit();
        checkThatFails();
        stopEndsRun();
        stopOnlyInRun();
        tickAnswers();
        tickOnlyInRun();
        ticksCount();
        ticksOnlyInRun();
        ticksTooMany();
        time();
        timeBeforeTheFirstRun();
        countKinds();
        countLongest();
        countOfNoTask();
        countOfNoKind();
        countOfLaterTasks();
        sharedWords();
        sharedOfNoPlace();
        lastCall();
        Expect.end();
    }

    /** The states that refused calls are made in have something of everything that could be changed. */
    private static void statesAreRich() {
        Expect.sentence("A call that throws changes nothing");
        TabledExecutive x = States.running();
        Expect.same("killed", x.count(0, 2), 2);
        Expect.same("done", x.count(1, 0), 1);
        Expect.same("broken", x.count(2, 1), 2);
        Expect.yes("shared", x.shared(0) != 0);
        Expect.same("time", x.time(), 13);
        Expect.same("amid a job", x.tick(), 0);
        Expect.same("which goes on to its end", x.tick(), 300);
    }

    private static void checkAnswers() {
        Expect.sentence("Promise 12: Checks the table: whether it is GOOD");
        TabledExecutive x = States.planned();
        Expect.yes("good", x.check());
        TabledExecutive y = States.planned();
        y.drop();
        Expect.no("a slot too few", y.check());
        TabledExecutive z = States.planned();
        z.slot(z.slots(), 12, 1, 0);
        Expect.no("a slot too many", z.check());
    }

    /** A slot for each job of two tasks; the last two jobs of task 0 share one, as no slot starts behind 239. */
    private static TabledExecutive aSlotForEachJob(int p, int q, int round) {
        TabledExecutive x = new TabledExecutive();
        x.task(p, 1, p, 0);
        x.task(q, 1, q, 0);
        for (int k = 0; k < round / p; k++) {
            if (p * (k + 1) < 240) {
                x.slot(x.slots(), p * k, 1, 0);
            } else {
                x.slot(x.slots(), p * k + p - 1, k + 1 < round / p ? 2 : 1, 0);
                break;
            }
        }
        for (int k = 0; k < round / q; k++) {
            x.slot(x.slots(), q * k + (q * k % p == 0 || q * k % p == p - 1 ? 2 : 0), 1, 1);
        }
        return x;
    }

    /** The table for 246 ticks has all that makes a table good but the round. */
    private static void checkAbove240() {
        Expect.sentence("Promise 12: (not if h is above 240");
        TabledExecutive x = aSlotForEachJob(6, 41, 246);
        Expect.same("its last slot of task 0", x.slotOf(39, 0), 239);
        Expect.same("reaches into the last window", x.slotOf(39, 1), 2);
        Expect.same("round", x.round(), TabledExecutive.LONG);
        Expect.no("246", x.check());
        Expect.state("EDIT still", x::tick);
        Expect.yes("240", aSlotForEachJob(5, 48, 240).check());
        Expect.yes("240 by other periods", aSlotForEachJob(16, 15, 240).check());
        Expect.yes("234", aSlotForEachJob(13, 18, 234).check());
        TabledExecutive y = new TabledExecutive();
        y.task(6, 1, 6, 0);
        y.task(41, 1, 41, 0);
        Expect.no("246 without slots", y.check());
    }

    private static void checkWithoutTasks() {
        Expect.sentence("Promise 12: without tasks and slots it is)");
        TabledExecutive x = new TabledExecutive();
        Expect.yes("at first", x.check());
        Expect.same("all idle", x.tick(), NONE);
        Expect.same("all idle", x.ticks(500), 0);
        x.stop();
        x.task(1, 1, 1, 0);
        Expect.no("with a task and no slots", x.check());
        x.slot(0, 0, 1, 0);
        Expect.yes("with a task and its slot", x.check());
        x.stop();
        x.clear();
        Expect.yes("after clear", x.check());
    }

    private static void checkBeginsRun() {
        Expect.sentence("Promise 12: If so the mode is RUN: the time is 0, shared words are 0, no task has a job, "
                + "nothing is counted.");
        TabledExecutive x = States.stopped();
        Expect.yes("good", x.check());
        Expect.same("time", x.time(), 0);
        for (int i = 0; i < 16; i++) {
            Expect.same("shared " + i, x.shared(i), 0);
        }
        for (int i = 0; i < 12; i++) {
            Expect.same("count " + i / 4 + " " + i % 4, x.count(i / 4, i % 4), 0);
        }
        TabledExecutive y = States.planned();
        y.check();
        for (int c = 0; c < 40; c++) {
            Expect.same("the second run is as the first, tick " + c, x.tick(), y.tick());
        }
        Expect.text("and so is all that can be seen", Refused.look(x), Refused.look(y));
        noTaskHasAJob();
    }

    /** The slot stands before the first release, so only a job of the run before could have it. */
    private static void noTaskHasAJob() {
        TabledExecutive x = new TabledExecutive();
        x.task(4, 2, 4, 3);
        x.load(0, Words.jump(0));
        x.slot(0, 3, 1, 0);
        x.slot(1, 0, 1, 0);
        x.check();
        Expect.same("ticks 0 .. 3", x.ticks(4), 1);
        x.stop();
        x.check();
        Expect.same("tick 0 of the next run", x.tick(), NONE);
        Expect.same("ticks 1 and 2", x.ticks(2), 0);
        Expect.same("tick 3", x.tick(), 0);
        Expect.same("tick 4", x.tick(), 300);
    }

    private static void checkOnlyInEdit() {
        Expect.sentence("Promise 12: EDIT. .. IllegalState.");
        Refused.state("check in RUN", States::running, TabledExecutive::check);
        Refused.state("check in RUN without tasks", States::runningEmpty, TabledExecutive::check);
    }

    private static TabledExecutive stoppedWithBadTable() {
        TabledExecutive x = States.stopped();
        x.slot(0, 239, 1, 0);
        return x;
    }

    /** It answers false and that is all: the mode, the table and what was counted stay. */
    private static void checkThatFails() {
        Expect.sentence("Promise 12: If so the mode is RUN");
        TabledExecutive x = stoppedWithBadTable();
        Expect.no("not good", x.check());
        Expect.no("nor again", x.check());
        Expect.text("not good", Refused.look(x), Refused.look(stoppedWithBadTable()));
        Expect.state("no tick", x::tick);
        Expect.state("no stop", x::stop);
        x.synthesize();
        Expect.yes("good", x.check());
    }

    private static void stopEndsRun() {
        Expect.sentence("Promise 13: The mode is EDIT; what was counted, and the shared words, stay to be seen.");
        TabledExecutive x = States.running();
        String before = Refused.look(x);
        x.stop();
        Expect.text("seen after stop", Refused.look(x), before);
        x.load(0, Words.HALT);
        x.entry(0, 5);
        x.task(6, 1, 6, 0);
        x.slot(0, 3, 3, 0);
        x.drop();
        x.synthesize();
        Expect.same("killed", x.count(0, 2), 2);
        Expect.same("done", x.count(1, 0), 1);
        Expect.same("broken", x.count(2, 1), 2);
        Expect.yes("shared", x.shared(0) != 0);
        TabledExecutive y = States.runningEmpty();
        y.stop();
        Expect.same("a run without tasks", y.task(1, 1, 1, 0), 0);
    }

    private static void stopOnlyInRun() {
        Expect.sentence("Promise 13: RUN. .. IllegalState.");
        Refused.state("stop at first", TabledExecutive::new, TabledExecutive::stop);
        Refused.state("stop before a run", States::planned, TabledExecutive::stop);
        Refused.state("stop after stop", States::stopped, TabledExecutive::stop);
    }

    /** All six tasks; each halts, breaks or is killed by its only tick, in turn. */
    private static void tickAnswers() {
        Expect.sentence("Promise 14: A tick: NONE if it was idle; else the task, and 100 more if its job is DONE by it, "
                + "200 if BROKEN, 300 if KILLED.");
        int[] words = {Words.HALT, Words.BREAK, Words.set(0, 1)};
        for (int shift = 0; shift < 3; shift++) {
            TabledExecutive x = new TabledExecutive();
            for (int t = 0; t < 6; t++) {
                x.task(14, 2, 14, 0);
                x.slot(t, 2 * t, 2, t);
                Words.loadAt(x, 8 * t, Words.set(0, 1), words[(t + shift) % 3]);
            }
            x.check();
            for (int c = 0; c < 28; c++) {
                int t = c % 14 / 2;
                int end = c % 2 == 0 ? 0 : 100 * (1 + (t + shift) % 3);
                Expect.same("tick " + c, x.tick(), t == 6 ? NONE : t + end);
            }
        }
        Expect.same("NONE", NONE, -1);
    }

    private static void tickOnlyInRun() {
        Expect.sentence("Promise 14: RUN. .. IllegalState.");
        Refused.state("tick at first", TabledExecutive::new, TabledExecutive::tick);
        Refused.state("tick before a run", States::planned, TabledExecutive::tick);
        Refused.state("tick after stop", States::stopped, TabledExecutive::tick);
        TabledExecutive x = new TabledExecutive();
        x.check();
        Expect.same("tick in RUN", x.tick(), NONE);
    }

    /** As many ticks as single ones, and as many of them not idle. */
    private static void ticksCount() {
        Expect.sentence("Promise 15: So many ticks: how many of them were not idle.");
        for (int many : new int[] {1, 2, 3, 11, 12, 13, 100, 250}) {
            TabledExecutive x = States.planned();
            TabledExecutive y = States.planned();
            x.check();
            y.check();
            int busy = 0;
            for (int i = 0; i < many; i++) {
                busy += y.tick() == NONE ? 0 : 1;
            }
            Expect.same(many + " ticks", x.ticks(many), busy);
            Expect.text(many + " ticks", Refused.look(x), Refused.look(y));
        }
        TabledExecutive z = new TabledExecutive();
        z.task(1, 1, 1, 0);
        z.slot(0, 0, 1, 0);
        z.check();
        Expect.same("none of 500 idle", z.ticks(500), 500);
        Expect.same("none of 1 idle", z.ticks(1), 1);
        Expect.same("all of 1 idle", States.runningEmpty().ticks(1), 0);
    }

    private static void ticksOnlyInRun() {
        Expect.sentence("Promise 15: RUN. .. IllegalState");
        for (int many : new int[] {1, 500, 0, -1, 501, MIN, MAX}) {
            Refused.state("ticks " + many + " at first", TabledExecutive::new, x -> x.ticks(many));
            Refused.state("ticks " + many + " before a run", States::planned, x -> x.ticks(many));
            Refused.state("ticks " + many + " after stop", States::stopped, x -> x.ticks(many));
        }
    }

    private static void ticksTooMany() {
        Expect.sentence("Promise 15: IllegalArgument: many is not 1 .. 500.");
        for (int many : new int[] {0, -1, -500, 501, 502, 1000, MIN, MAX}) {
            Refused.argument("ticks " + many, States::running, x -> x.ticks(many));
            Refused.argument("ticks " + many + " without tasks", States::runningEmpty, x -> x.ticks(many));
        }
        for (int many : new int[] {1, 2, 499, 500}) {
            TabledExecutive x = States.running();
            x.ticks(many);
            Expect.same("time after " + many, x.time(), 13 + many);
        }
    }

    private static void time() {
        Expect.sentence("Promise 16: The time");
        TabledExecutive x = States.running();
        Expect.same("in RUN", x.time(), 13);
        x.tick();
        Expect.same("a tick later", x.time(), 14);
        x.ticks(500);
        Expect.same("500 later", x.time(), 514);
        x.stop();
        Expect.same("after stop", x.time(), 514);
        x.check();
        Expect.same("in the next run", x.time(), 0);
    }

    private static void timeBeforeTheFirstRun() {
        Expect.sentence("Promise 16: 0 before the first run.");
        Expect.same("at first", new TabledExecutive().time(), 0);
        TabledExecutive x = States.planned();
        Expect.same("with a table", x.time(), 0);
        x.drop();
        x.check();
        Expect.same("after a check that failed", x.time(), 0);
        x.clear();
        Expect.same("after clear", x.time(), 0);
    }

    /** Jobs of one task end in all three ways, by what an earlier job left in a shared word. */
    private static void countKinds() {
        Expect.sentence("Promise 17: how many jobs 0 were DONE, 1 BROKEN, 2 KILLED");
        TabledExecutive x = new TabledExecutive();
        x.task(8, 6, 8, 0);
        Words.loadAt(x, 0, Words.read(1, 0), Words.more(1, 1), Words.write(1, 0), Words.more(1, -2),
                Words.ifZero(1, 20), Words.ifBelow(1, 30));
        x.load(20, Words.BREAK);
        x.load(30, Words.HALT);
        x.slot(0, 1, 6, 0);
        x.check();
        counted(x, 0, 0, 0);
        x.ticks(6);
        counted(x, 0, 0, 0);
        Expect.same("the first is killed at the jump that it makes", x.tick(), 300);
        counted(x, 0, 0, 1);
        x.ticks(7);
        counted(x, 0, 0, 1);
        Expect.same("the second breaks", x.tick(), 200);
        counted(x, 0, 1, 1);
        x.stop();
        x.load(1, Words.HALT);
        x.check();
        counted(x, 0, 0, 0);
        x.ticks(500);
        counted(x, 63, 0, 0);
        x.stop();
        counted(x, 63, 0, 0);
    }

    private static void counted(TabledExecutive x, int done, int broken, int killed) {
        String what = "at " + x.time();
        Expect.same(what + ": done", x.count(0, 0), done);
        Expect.same(what + ": broken", x.count(0, 1), broken);
        Expect.same(what + ": killed", x.count(0, 2), killed);
    }

    private static void countLongest() {
        Expect.sentence("Promise 17: 3 the most ticks from a release to the end of the tick in which that job was DONE, "
                + "0 if none was.");
        for (int start = 0; start < 48; start++) {
            TabledExecutive x = new TabledExecutive();
            x.task(48, 1, 48, 0);
            x.slot(0, start, 1, 0);
            x.check();
            x.ticks(start + 1);
            Expect.same("done in tick " + start, x.count(0, 3), start + 1);
            x.ticks(200);
            Expect.same("and later ones", x.count(0, 3), start + 1);
        }
        theMostOfSeveral();
        onlyOfJobsThatWereDone();
    }

    /** The three jobs of a round wait 1, 4 and 2 ticks and then have theirs; the releases are at 5, 11 and 17. */
    private static void theMostOfSeveral() {
        TabledExecutive x = new TabledExecutive();
        x.task(6, 1, 6, 5);
        x.task(18, 1, 18, 0);
        x.slot(0, 6, 1, 0);
        x.slot(1, 15, 1, 0);
        x.slot(2, 1, 1, 0);
        x.slot(3, 0, 1, 1);
        Expect.yes("good", x.check());
        int[] times = {6, 7, 15, 16, 19, 20, 25, 34, 60};
        int[] due = {0, 2, 2, 5, 5, 5, 5, 5, 5};
        for (int i = 0; i < times.length; i++) {
            x.ticks(times[i] - x.time());
            Expect.same("at " + times[i], x.count(0, 3), due[i]);
        }
        Expect.same("of the other task", x.count(1, 3), 1);
    }

    private static void onlyOfJobsThatWereDone() {
        for (int word : new int[] {Words.BREAK, Words.set(0, 1)}) {
            TabledExecutive x = new TabledExecutive();
            x.task(6, 1, 6, 0);
            x.load(0, word);
            x.slot(0, 5, 1, 0);
            x.check();
            Expect.same("jobs", x.ticks(60), 10);
            Expect.same("none was done", x.count(0, 3), 0);
        }
    }

    private static void countOfNoTask() {
        Expect.sentence("Promise 17: IndexOutOfBounds: there is no such task");
        for (int task : new int[] {-1, 3, 4, 5, 6, MIN, MAX}) {
            for (int what = -1; what <= 4; what++) {
                int kind = what;
                Refused.index("task " + task + " of 3", States::stopped, x -> x.count(task, kind));
                Refused.index("task " + task + " of 3 in RUN", States::running, x -> x.count(task, kind));
            }
        }
        for (int task : new int[] {-1, 6, 7}) {
            Refused.index("task " + task + " of 6", States::sixTasks, x -> x.count(task, 0));
        }
        Expect.same("task 5 of 6", States.sixTasks().count(5, 3), 0);
        Refused.index("task 0 of none", States::runningEmpty, x -> x.count(0, 0));
    }

    private static void countOfNoKind() {
        Expect.sentence("Promise 17: IndexOutOfBounds: .. or what is not 0 .. 3.");
        for (int what : new int[] {-1, 4, 5, MIN, MAX}) {
            for (int t = 0; t < 3; t++) {
                int task = t;
                Refused.index("count " + what, States::stopped, x -> x.count(task, what));
                Refused.index("count " + what + " in RUN", States::running, x -> x.count(task, what));
            }
        }
    }

    private static void countOfLaterTasks() {
        Expect.sentence("Promise 17: (Tasks that were added later have had none.)");
        TabledExecutive x = States.stopped();
        for (int t = 3; t < 6; t++) {
            x.task(6, 1, 6, 0);
            for (int what = 0; what < 4; what++) {
                Expect.same("task " + t, x.count(t, what), 0);
            }
        }
        Expect.same("task 0 was in the run", x.count(0, 2), 2);
        x.clear();
        for (int t = 0; t < 6; t++) {
            x.task(6, 1, 6, 0);
            for (int what = 0; what < 4; what++) {
                Expect.same("task " + t + " after clear", x.count(t, what), 0);
            }
        }
    }

    /** Each shared word is written by a program of its own, and no other word with it. */
    private static void sharedWords() {
        Expect.sentence("Promise 18: A shared word.");
        for (int place = 0; place < 16; place++) {
            TabledExecutive x = new TabledExecutive();
            x.task(4, 4, 4, 0);
            Words.loadAt(x, 0, Words.set(1, place), Words.set(2, -7 - place), Words.write(2, 1));
            x.slot(0, 0, 4, 0);
            x.check();
            x.ticks(2);
            Expect.same("before", x.shared(place), 0);
            x.tick();
            for (int i = 0; i < 16; i++) {
                Expect.same("shared " + i, x.shared(i), i == place ? -7 - place : 0);
            }
            x.stop();
            Expect.same("after stop", x.shared(place), -7 - place);
            x.check();
            Expect.same("in the next run", x.shared(place), 0);
        }
    }

    private static void sharedOfNoPlace() {
        Expect.sentence("Promise 18: IndexOutOfBounds: place is not 0 .. 15.");
        for (int place : new int[] {-1, 16, 17, 31, -16, MIN, MAX}) {
            Refused.index("shared " + place + " at first", TabledExecutive::new, x -> x.shared(place));
            Refused.index("shared " + place, States::stopped, x -> x.shared(place));
            Refused.index("shared " + place + " in RUN", States::running, x -> x.shared(place));
        }
    }

    /** 4 calls to begin, 505 of 500 ticks, and three to look: 512 in all. */
    private static void lastCall() {
        Expect.sentence("An object is used for at most 512 calls after it has been made");
        TabledExecutive x = new TabledExecutive();
        x.task(1, 1, 1, 1);
        x.load(0, Words.HALT);
        x.slot(0, 0, 1, 0);
        Expect.yes("good", x.check());
        Expect.same("the first 500", x.ticks(500), 499);
        for (int i = 1; i < 505; i++) {
            Expect.same("500 more", x.ticks(500), 500);
        }
        Expect.same("done", x.count(0, 0), 252499);
        Expect.same("longest", x.count(0, 3), 1);
        Expect.same("the last call: time", x.time(), 252500);
    }
}
