/** The boundaries that the document names for a synthesis, in 'Terms' and in promise 7. */
public final class SynthesisEdgeTest {
    private static final int INFEASIBLE = TabledExecutive.INFEASIBLE;
    private static final int LONG = TabledExecutive.LONG;

    public static void main(String[] args) {
        released();
        fewerThanTheirWork();
        windowThatEndsFirst();
        lowestTask();
        toNone();
        greatestOffset();
        withoutTasks();
        windowsEndInTime();
        windowOfAnyTask();
        missedLate();
        moreWorkThanTicks();
        moreWorkButNoWindowMissed();
        afterTheFirstRound();
        moduloRound();
        asFewAsCanBe();
        notOfTwoTasks();
        inOrder();
        howMany();
        longRound();
        longBeforeInfeasible();
        longTable();
        infeasibleBeforeLongTable();
        noSlotsThen();
        fromTickZero();
        onlyInEdit();
        Expect.end();
    }

    private static int[] t(int period, int work, int deadline, int offset) {
        return new int[] {period, work, deadline, offset};
    }

    private static TabledExecutive of(int[]... tasks) {
        TabledExecutive x = new TabledExecutive();
        for (int[] t : tasks) {
            x.task(t[0], t[1], t[2], t[3]);
        }
        return x;
    }

    /** Letter c of the text is the task that has tick c of the round, a dot is none. */
    private static void goes(String want, int[]... tasks) {
        TabledExecutive x = of(tasks);
        int answer = x.synthesize();
        Expect.same(want + ": answer", answer, x.slots());
        StringBuilder got = new StringBuilder(".".repeat(want.length()));
        for (int i = 0; i < x.slots(); i++) {
            for (int c = 0; c < x.slotOf(i, 1); c++) {
                got.setCharAt(x.slotOf(i, 0) + c, (char) ('0' + x.slotOf(i, 2)));
            }
        }
        Expect.same(want + ": round", x.round(), want.length());
        Expect.text("ticks", got.toString(), want);
    }

    /** A table or none, by the tasks alone; slots that stood there before do not matter. */
    private static void answers(int want, int[]... tasks) {
        TabledExecutive x = of(tasks);
        x.slot(0, 0, 240, 0);
        x.slot(1, 239, 1, 0);
        String what = java.util.Arrays.deepToString(tasks);
        Expect.same(what, x.synthesize(), want);
        Expect.same(what + ": slots", x.slots(), Math.max(0, want));
        Expect.same(what + ": good", x.check() ? 1 : 0, want >= 0 ? 1 : 0);
    }

    private static void released() {
        Expect.sentence("each goes to one of the jobs that are released");
        goes("01000.", t(6, 4, 6, 0), t(6, 1, 1, 1));
        goes("00001.", t(6, 4, 6, 0), t(6, 1, 1, 4));
        goes("10000.", t(6, 4, 6, 0), t(6, 1, 1, 0));
        goes(".0....", t(6, 1, 6, 1));
        goes(".....0", t(6, 1, 6, 5));
    }

    private static void fewerThanTheirWork() {
        Expect.sentence("and have had fewer ticks than their work");
        for (int w = 1; w <= 6; w++) {
            goes("0".repeat(w) + ".".repeat(6 - w), t(6, w, 6, 0));
        }
        for (int w = 1; w <= 5; w++) {
            goes("0".repeat(w) + "1".repeat(6 - w), t(6, w, 6, 0), t(6, 6 - w, 6, 0));
        }
    }

    private static void windowThatEndsFirst() {
        Expect.sentence("to that whose window ends first");
        goes("1100..", t(6, 2, 4, 0), t(6, 2, 3, 0));
        goes("0011..", t(6, 2, 4, 0), t(6, 2, 5, 0));
        goes("0110..", t(6, 2, 6, 0), t(6, 2, 4, 1));
        goes("0011..", t(6, 2, 4, 0), t(6, 2, 4, 1));
        goes("21100.", t(6, 2, 5, 0), t(6, 2, 4, 0), t(6, 1, 3, 0));
        goes("001121..", t(8, 2, 6, 0), t(8, 3, 8, 0), t(8, 1, 1, 4));
    }

    private static void lowestTask() {
        Expect.sentence("of several to that of the lowest task");
        goes("0011..", t(6, 2, 4, 0), t(6, 2, 4, 0));
        goes("1001..", t(6, 2, 4, 1), t(6, 2, 5, 0));
        goes("0011..", t(6, 2, 5, 0), t(6, 2, 4, 1));
        goes("012345", t(6, 1, 6, 0), t(6, 1, 6, 0), t(6, 1, 6, 0), t(6, 1, 6, 0), t(6, 1, 6, 0), t(6, 1, 6, 0));
        goes("501234", t(6, 1, 5, 0), t(6, 1, 5, 0), t(6, 1, 5, 0), t(6, 1, 5, 0), t(6, 1, 6, 0), t(6, 1, 1, 0));
    }

    private static void toNone() {
        Expect.sentence("to none if there is none.");
        goes("0.....", t(6, 1, 6, 0));
        goes("..0..1", t(6, 1, 1, 2), t(6, 1, 1, 5));
        goes("010.0.0.0.0.", t(2, 1, 1, 0), t(12, 1, 6, 1));
    }

    private static void greatestOffset() {
        Expect.sentence("Let m be the greatest offset");
        goes("010101", t(2, 1, 2, 20), t(6, 3, 6, 5));
        goes("101010", t(6, 3, 6, 5), t(2, 1, 2, 20));
        goes("121012", t(6, 1, 6, 1), t(2, 1, 2, 20), t(6, 2, 6, 5));
    }

    private static void withoutTasks() {
        Expect.sentence("(0 without tasks)");
        TabledExecutive x = new TabledExecutive();
        Expect.same("no tasks: no slots", x.synthesize(), 0);
        Expect.same("no slots", x.slots(), 0);
        x.task(4, 1, 1, 48);
        x.synthesize();
        x.clear();
        Expect.same("no tasks any more", x.synthesize(), 0);
        Expect.yes("good", x.check());
        answers(1, t(4, 1, 1, 0));
    }

    private static void windowsEndInTime() {
        Expect.sentence("If at a time .. a window has ended whose job had fewer ticks than its work");
        answers(2, t(6, 2, 2, 0), t(6, 2, 4, 0));
        answers(INFEASIBLE, t(6, 2, 2, 0), t(6, 2, 3, 0));
        answers(2, t(6, 2, 2, 0), t(6, 1, 3, 0));
        answers(INFEASIBLE, t(6, 3, 3, 0), t(6, 1, 3, 0));
        answers(2, t(4, 1, 1, 0), t(4, 1, 1, 1));
        answers(INFEASIBLE, t(4, 1, 1, 0), t(4, 1, 1, 0));
        answers(INFEASIBLE, t(4, 1, 1, 1), t(4, 1, 1, 45));
        answers(3, t(6, 1, 2, 0), t(6, 1, 2, 0), t(6, 4, 6, 0));
        answers(INFEASIBLE, t(6, 1, 2, 0), t(6, 1, 2, 0), t(6, 1, 2, 0));
    }

    /** Five tasks have a tick each, 0 .. 4; the one left, of any number, needs both 5 and 6. */
    private static void windowOfAnyTask() {
        Expect.sentence("a window has ended whose job had fewer ticks than its work");
        for (int left = 0; left < 6; left++) {
            int[][] tasks = new int[6][];
            for (int i = 0; i < 6; i++) {
                tasks[i] = t(12, 1, 1, i < left ? i : i - 1);
            }
            tasks[left] = t(12, 2, 7, 0);
            answers(6, tasks);
            tasks[left] = t(12, 2, 6, 0);
            answers(INFEASIBLE, tasks);
        }
        answers(INFEASIBLE, t(4, 2, 3, 0), t(4, 2, 2, 0));
        answers(2, t(4, 2, 4, 0), t(4, 2, 2, 0));
    }

    /**
     * Task 0 begins at m = 48, 2 ticks behind the first job of task 1, which therefore meets its window; each later
     * one has a tick too few, first at 141 = m + 2 * h - 3. (With no more work than ticks no first miss is later.)
     */
    private static void missedLate() {
        Expect.sentence("at a time up to m + 2 * h");
        answers(INFEASIBLE, t(2, 1, 1, 48), t(48, 24, 47, 46));
        answers(INFEASIBLE, t(48, 24, 47, 46), t(2, 1, 1, 48));
        answers(48, t(2, 1, 1, 48), t(48, 24, 48, 46));
        answers(47, t(2, 1, 1, 48), t(48, 23, 47, 46));
        answers(INFEASIBLE, t(2, 1, 1, 12), t(4, 2, 3, 2));
        answers(4, t(2, 1, 1, 12), t(4, 2, 4, 2));
    }

    private static void moreWorkThanTicks() {
        Expect.sentence("more work than ticks in a round (the sum of w * h / p over all tasks is above h)");
        answers(1, t(48, 48, 48, 0));
        answers(2, t(48, 47, 48, 0), t(48, 1, 48, 0));
        answers(INFEASIBLE, t(48, 48, 48, 0), t(48, 1, 48, 0));
        answers(INFEASIBLE, t(1, 1, 1, 0), t(48, 1, 48, 0));
        answers(6, t(2, 1, 2, 0), t(3, 1, 3, 0), t(6, 1, 6, 0));
        answers(INFEASIBLE, t(2, 1, 2, 0), t(3, 1, 3, 0), t(6, 2, 6, 0));
    }

    /** Here the offset puts the work off so long that all windows up to m + 2 * h are met. */
    private static void moreWorkButNoWindowMissed() {
        Expect.sentence("or if there is more work than ticks in a round");
        answers(INFEASIBLE, t(24, 9, 18, 0), t(24, 18, 24, 15));
        answers(INFEASIBLE, t(24, 18, 24, 15), t(24, 9, 18, 0));
    }

    /** The tick 93 = m + h - 3 is idle, the tick 141 = m + 2 * h - 3 is not. */
    private static void afterTheFirstRound() {
        Expect.sentence("the new table is what the ticks m + h .. m + 2 * h - 1 went to");
        goes("01".repeat(24), t(2, 1, 1, 48), t(48, 24, 48, 46));
        goes("10".repeat(24), t(48, 24, 48, 46), t(2, 1, 1, 48));
    }

    private static void moduloRound() {
        Expect.sentence("each counted modulo h");
        for (int f = 0; f <= 48; f++) {
            goes(".".repeat(f % 5) + "0" + ".".repeat(4 - f % 5), t(5, 1, 1, f));
        }
        goes("0...0", t(5, 2, 2, 4));
        goes("0...0", t(5, 2, 2, 44));
        goes(".000.", t(5, 3, 3, 46));
    }

    private static void table(String want, int[]... tasks) {
        TabledExecutive x = of(tasks);
        Expect.same(want + ": answer", x.synthesize(), want.split(" ").length);
        Expect.table("table", x, want);
        Expect.yes(want + ": good", x.check());
    }

    private static void asFewAsCanBe() {
        Expect.sentence("as few slots as can be");
        table("0+6:0", t(6, 6, 6, 0));
        table("0+1:1 1+4:0", t(3, 2, 3, 0), t(6, 1, 1, 0));
        table("0+6:0", t(6, 6, 6, 3));
        table("0+2:0 5+1:0", t(6, 3, 3, 5));
        table("0+1:0 2+1:0 3+1:1 4+1:0 6+1:0", t(2, 1, 1, 0), t(8, 1, 8, 3));
    }

    private static void notOfTwoTasks() {
        Expect.sentence("none with ticks of two tasks");
        table("0+1:0 1+1:1", t(2, 1, 2, 0), t(2, 1, 2, 0));
        table("0+3:0 3+3:1", t(6, 3, 6, 0), t(6, 3, 6, 0));
        table("0+1:0 1+1:1 2+1:0 3+1:1", t(2, 1, 1, 0), t(4, 2, 4, 0));
    }

    private static void inOrder() {
        Expect.sentence("in the order of their starts.");
        table("0+1:1 1+1:0", t(6, 1, 6, 1), t(6, 1, 1, 0));
        table("0+1:2 2+1:1 4+1:0", t(6, 1, 1, 4), t(6, 1, 1, 2), t(6, 1, 1, 0));
        table("0+1:0 4+2:0", t(6, 3, 3, 4));
    }

    private static void howMany() {
        Expect.sentence("SYNTHESIS: how many slots the new table has.");
        answers(1, t(1, 1, 1, 0));
        answers(1, t(48, 48, 48, 48));
        answers(6, t(6, 1, 6, 0), t(6, 1, 6, 0), t(6, 1, 6, 0), t(6, 1, 6, 0), t(6, 1, 6, 0), t(6, 1, 6, 0));
    }

    /** 246 is the least round above 240 that periods up to 48 can have. */
    private static void longRound() {
        Expect.sentence("LONG if h is above 240");
        answers(11, t(40, 1, 1, 0), t(48, 1, 1, 1));
        answers(31, t(15, 1, 1, 0), t(16, 1, 2, 0));
        answers(LONG, t(6, 1, 1, 0), t(41, 1, 6, 0));
        answers(LONG, t(13, 1, 1, 0), t(19, 1, 5, 1));
        answers(LONG, t(47, 1, 47, 0), t(46, 1, 46, 0), t(45, 1, 45, 0), t(43, 1, 43, 0), t(41, 1, 41, 0),
                t(37, 1, 37, 0));
    }

    private static void longBeforeInfeasible() {
        Expect.sentence("LONG if h is above 240, otherwise INFEASIBLE");
        answers(LONG, t(6, 6, 6, 0), t(41, 41, 41, 0));
        answers(INFEASIBLE, t(6, 6, 6, 0), t(40, 40, 40, 0));
    }

    /** With work 1 and windows far apart each job is a slot: 16 + 15 + 5 + 24 of them, and 16 + 15 + 30. */
    private static void longTable() {
        Expect.sentence("otherwise LONG if it would have more than 60 slots");
        answers(60, t(15, 1, 15, 0), t(16, 1, 16, 0), t(48, 1, 48, 0), t(10, 1, 10, 0));
        answers(LONG, t(15, 1, 15, 0), t(16, 1, 16, 0), t(8, 1, 8, 0));
        answers(60, t(4, 1, 1, 18), t(43, 10, 29, 36));
        answers(LONG, t(35, 13, 35, 48), t(2, 1, 2, 34));
        answers(LONG, t(2, 1, 1, 0), t(5, 1, 2, 0), t(48, 1, 4, 0));
    }

    private static void infeasibleBeforeLongTable() {
        Expect.sentence("otherwise INFEASIBLE, otherwise LONG if it would have more than 60 slots");
        answers(INFEASIBLE, t(3, 1, 1, 0), t(5, 1, 1, 0), t(16, 1, 1, 0));
    }

    private static void noSlotsThen() {
        Expect.sentence("by each of these there are no slots then.");
        int[][][] sets = {{t(6, 1, 1, 0), t(41, 1, 6, 0)}, {t(4, 1, 1, 0), t(4, 1, 1, 0)},
            {t(15, 1, 15, 0), t(16, 1, 16, 0), t(8, 1, 8, 0)}};
        int[] due = {LONG, INFEASIBLE, LONG};
        for (int i = 0; i < sets.length; i++) {
            TabledExecutive x = of(sets[i]);
            for (int slot = 0; slot < 60; slot++) {
                x.slot(slot, slot, 1, 0);
            }
            Expect.same("set " + i, x.synthesize(), due[i]);
            Expect.same("set " + i + ": slots", x.slots(), 0);
            Expect.index("set " + i + ": slotOf", () -> x.slotOf(0, 0));
            Expect.state("set " + i + ": drop", x::drop);
            Expect.index("set " + i + ": slot 1", () -> x.slot(1, 0, 1, 0));
            x.slot(0, 5, 2, 1);
            Expect.table("set " + i + ": a first slot", x, "5+2:1");
        }
    }

    /** The synthesis before broke off amid jobs of both tasks; the next one begins with none of that. */
    private static void fromTickZero() {
        Expect.sentence("Imagine all ticks from 0 on");
        TabledExecutive x = of(t(48, 20, 20, 0), t(48, 20, 20, 0));
        Expect.same("infeasible", x.synthesize(), INFEASIBLE);
        x.clear();
        x.task(4, 1, 1, 0);
        x.task(4, 1, 1, 47);
        Expect.same("feasible", x.synthesize(), 2);
        Expect.table("its table", x, "0+1:0 3+1:1");
        Expect.same("again", x.synthesize(), 2);
        Expect.table("its table again", x, "0+1:0 3+1:1");
    }

    private static void onlyInEdit() {
        Expect.sentence("Promise 7: EDIT. .. IllegalState.");
        Refused.state("synthesize in RUN", States::running, TabledExecutive::synthesize);
        Refused.state("synthesize in RUN without tasks", States::runningEmpty, TabledExecutive::synthesize);
    }
}
