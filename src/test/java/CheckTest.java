/** Promises 12 and 13: which tables are good, what a run begins with, and what stays when it is stopped. */
public final class CheckTest {
    public static void main(String[] args) {
        emptyTable();
        windows();
        windowsModuloRound();
        slotsInRound();
        severalTasks();
        tooLong();
        freshRun();
        failedCheckKeeps();
        stop();
        Expect.end();
    }

    /** A table by hand for the tasks that are there: start, length, task of each slot. */
    private static void table(TabledExecutive x, int... parts) {
        for (int i = x.slots(); i > 0; i--) {
            x.drop();
        }
        for (int i = 0; i < parts.length; i += 3) {
            x.slot(i / 3, parts[i], parts[i + 1], parts[i + 2]);
        }
    }

    private static void good(String what, TabledExecutive x, int... parts) {
        table(x, parts);
        Expect.yes(what, x.check());
        Expect.state(what + ": RUN now", x::check);
        x.stop();
    }

    private static void bad(String what, TabledExecutive x, int... parts) {
        table(x, parts);
        Expect.no(what, x.check());
        Expect.state(what + ": EDIT still", x::stop);
    }

    private static void emptyTable() {
        TabledExecutive x = new TabledExecutive();
        good("no tasks, no slots", x);
        x.check();
        Expect.same("no tasks: idle", x.tick(), TabledExecutive.NONE);
        Expect.same("no tasks: all idle", x.ticks(500), 0);
        x.stop();
        x.task(4, 1, 4, 0);
        bad("a task, no slots", x);
    }

    private static void windows() {
        TabledExecutive x = new TabledExecutive();
        x.task(6, 2, 4, 1);
        good("at the window's start", x, 1, 2, 0);
        good("at the window's end", x, 3, 2, 0);
        good("in two slots, the later one first", x, 4, 1, 0, 1, 1, 0);
        good("in two slots that touch", x, 2, 1, 0, 3, 1, 0);
        bad("before the window", x, 0, 2, 0);
        bad("after the window", x, 4, 2, 0);
        bad("too few", x, 1, 1, 0);
        bad("too many", x, 1, 3, 0);
        bad("enough, and one outside", x, 1, 2, 0, 5, 1, 0);
        bad("enough, and one before", x, 0, 1, 0, 1, 2, 0);
        x.clear();
        x.task(3, 1, 2, 0);
        x.task(6, 1, 6, 0);
        good("each window its work", x, 0, 1, 0, 4, 1, 0, 5, 1, 1);
        bad("two in one window, none in the next", x, 0, 2, 0, 5, 1, 1);
        bad("the right sum, one in a gap", x, 0, 1, 0, 5, 1, 0, 4, 1, 1);
        bad("none in the last window", x, 0, 1, 0, 5, 1, 1);
    }

    private static void windowsModuloRound() {
        TabledExecutive x = new TabledExecutive();
        x.task(4, 2, 3, 2);
        good("a window over the round's end", x, 2, 1, 0, 0, 1, 0);
        good("at the round's end", x, 2, 2, 0);
        bad("outside it", x, 1, 1, 0, 2, 1, 0);
        bad("a slot over the round's end", x, 3, 2, 0);
        x.clear();
        x.task(5, 1, 1, 48);
        good("an offset of many rounds", x, 3, 1, 0);
        bad("an offset of many rounds, beside it", x, 4, 1, 0);
    }

    private static void slotsInRound() {
        TabledExecutive x = new TabledExecutive();
        x.task(4, 4, 4, 0);
        good("all ticks", x, 0, 4, 0);
        bad("a slot beyond the round", x, 0, 4, 0, 4, 1, 0);
        bad("a slot far beyond the round", x, 0, 4, 0, 239, 240, 0);
        bad("a slot that leaves the round", x, 0, 5, 0);
        bad("two slots of a task on one tick", x, 0, 3, 0, 2, 2, 0);
        bad("a slot twice", x, 0, 4, 0, 0, 4, 0);
        x.clear();
        x.task(48, 1, 48, 0);
        x.task(40, 1, 40, 0);
        table(x, 0, 1, 0, 48, 1, 0, 96, 1, 0, 144, 1, 0, 239, 1, 0);
        Expect.no("the other task has nothing", x.check());
        good("a round of 240, its last tick too", x, 0, 1, 0, 48, 1, 0, 96, 1, 0, 144, 1, 0, 239, 1, 0,
                1, 1, 1, 40, 1, 1, 80, 1, 1, 120, 1, 1, 160, 1, 1, 200, 1, 1);
    }

    private static void severalTasks() {
        TabledExecutive x = new TabledExecutive();
        x.task(2, 1, 2, 0);
        x.task(4, 2, 4, 0);
        good("two tasks", x, 0, 1, 0, 3, 1, 0, 1, 2, 1);
        bad("one on the other's tick", x, 0, 1, 0, 2, 1, 0, 1, 2, 1);
        bad("the first is right, the second not", x, 0, 1, 0, 3, 1, 0, 1, 1, 1);
        bad("the second is right, the first not", x, 0, 1, 0, 1, 2, 1);
    }

    private static void tooLong() {
        TabledExecutive x = new TabledExecutive();
        x.task(48, 1, 48, 0);
        x.task(47, 1, 47, 0);
        bad("a round above 240", x, 0, 1, 0, 1, 1, 1);
        bad("a round above 240, no slots", x);
    }

    private static TabledExecutive afterSomeTicks() {
        TabledExecutive x = new TabledExecutive();
        x.task(4, 3, 4, 0);
        Words.loadAt(x, 0, Words.set(1, 5), Words.write(1, 2), Words.HALT);
        x.synthesize();
        x.check();
        x.ticks(6);
        return x;
    }

    private static void freshRun() {
        TabledExecutive x = afterSomeTicks();
        Expect.same("some run: shared", x.shared(0), 5);
        Expect.same("some run: time", x.time(), 6);
        Expect.same("some run: done", x.count(0, 0), 1);
        Expect.same("some run: longest", x.count(0, 3), 3);
        x.stop();
        x.clear();
        x.task(4, 1, 2, 3);
        x.slot(0, 0, 1, 0);
        Expect.yes("good again", x.check());
        Expect.same("fresh run: time", x.time(), 0);
        Expect.same("fresh run: shared", x.shared(0), 0);
        for (int what = 0; what < 4; what++) {
            Expect.same("fresh run: count " + what, x.count(0, what), 0);
        }
        Expect.same("fresh run: no job before the first release", x.tick(), TabledExecutive.NONE);
        freshRunDropsJobs();
    }

    /** The run stops amid a job; the offset of the same task keeps the new run from releasing one at its slot. */
    private static void freshRunDropsJobs() {
        TabledExecutive x = new TabledExecutive();
        x.task(4, 2, 4, 2);
        Words.loadAt(x, 0, Words.set(0, 1), Words.set(0, 1));
        table(x, 1, 1, 0, 2, 1, 0);
        x.check();
        Expect.same("ticks 0 .. 2", x.ticks(3), 1);
        x.stop();
        x.check();
        Expect.same("no task has a job", x.ticks(2), 0);
        Expect.same("its first job", x.ticks(4), 2);
        Expect.same("its first job was killed", x.count(0, 2), 1);
    }

    private static void failedCheckKeeps() {
        TabledExecutive x = afterSomeTicks();
        x.stop();
        x.drop();
        Expect.no("not good", x.check());
        Expect.same("not good: time stays", x.time(), 6);
        Expect.same("not good: shared stays", x.shared(0), 5);
        Expect.same("not good: counts stay", x.count(0, 0), 1);
        Expect.state("not good: EDIT", x::tick);
    }

    private static void stop() {
        TabledExecutive x = new TabledExecutive();
        Expect.state("stop at first", x::stop);
        TabledExecutive y = afterSomeTicks();
        y.stop();
        Expect.state("stop in EDIT", y::stop);
        Expect.same("stop: shared stays", y.shared(0), 5);
        Expect.same("stop: done stays", y.count(0, 0), 1);
        Expect.same("stop: longest stays", y.count(0, 3), 3);
        Expect.same("stop: time stays", y.time(), 6);
        Expect.table("stop: table stays", y, "0+3:0");
        Expect.state("stop: no tick", y::tick);
        Expect.state("stop: no ticks", () -> y.ticks(0));
        y.load(0, 0);
        Expect.same("stop: a task can be added", y.task(4, 1, 4, 0), 1);
        Expect.same("stop: it has had none", y.count(1, 0), 0);
    }
}
