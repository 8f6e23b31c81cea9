/** Promise 7: the table that is worked out. */
public final class SynthesisTest {
    public static void main(String[] args) {
        withoutTasks();
        choices();
        slotsOfTheRound();
        infeasible();
        tooLong();
        manySlots();
        modes();
        afterInfeasible();
        Expect.end();
    }

    private static int[] t(int period, int work, int deadline, int offset) {
        return new int[] {period, work, deadline, offset};
    }

    private static TabledExecutive of(int[]... tasks) {
        TabledExecutive x = new TabledExecutive();
        for (int[] t : tasks) {
            x.task(t[0], t[1], t[2], t[3]);
        }
        return x;
    }

    private static void made(String what, String want, int[]... tasks) {
        TabledExecutive x = of(tasks);
        Expect.same(what + ": slots", x.synthesize(), want.split(" ").length);
        Expect.table(what, x, want);
        Expect.yes(what + ": good", x.check());
    }

    /** No table: the code that is due, and the slots that were there before are gone. */
    private static void refused(String what, int want, int[]... tasks) {
        TabledExecutive x = of(tasks);
        x.slot(0, 0, 1, 0);
        Expect.same(what, x.synthesize(), want);
        Expect.same(what + ": no slots then", x.slots(), 0);
        Expect.no(what + ": not good", x.check());
    }

    private static void withoutTasks() {
        TabledExecutive x = new TabledExecutive();
        Expect.same("no tasks: an empty table", x.synthesize(), 0);
        Expect.same("no tasks: no slots", x.slots(), 0);
    }

    private static void choices() {
        made("one", "0+1:0", t(1, 1, 1, 0));
        made("the window that ends first", "0+1:1 1+2:0", t(6, 2, 6, 0), t(6, 1, 5, 0));
        made("of several the lowest task", "0+2:0 2+1:1", t(6, 2, 6, 0), t(6, 1, 6, 0));
        made("one that comes later goes first", "0+1:0 1+1:1 2+2:0", t(6, 3, 6, 0), t(6, 1, 2, 1));
        made("the lowest task, though it comes later", "0+1:1 1+1:0 2+1:1", t(6, 1, 4, 1), t(6, 2, 5, 0));
        made("three tasks", "0+1:0 1+2:1 3+1:2 4+1:0 5+2:2 7+1:1 8+1:0 9+1:1",
                t(4, 1, 4, 0), t(6, 2, 5, 1), t(12, 3, 12, 0));
        made("all ticks used", "0+24:0 24+24:1", t(48, 24, 48, 0), t(48, 24, 48, 0));
    }

    private static void slotsOfTheRound() {
        made("an offset above the round", "3+2:0", t(5, 2, 2, 48));
        made("a job over the round's end is two slots", "0+1:0 4+1:0", t(5, 2, 2, 34));
        made("all ticks are one slot", "0+5:0", t(5, 5, 5, 2));
        made("two jobs of a task that touch are one slot", "0+1:1 1+2:0", t(2, 1, 2, 0), t(4, 1, 1, 0));
        made("idle ticks part the slots of a task", "0+1:0 3+1:0 4+1:1", t(3, 1, 1, 48), t(6, 1, 2, 4));
    }

    private static void infeasible() {
        int no = TabledExecutive.INFEASIBLE;
        refused("two windows on one tick", no, t(4, 1, 1, 0), t(4, 1, 1, 0));
        refused("a window shorter than the work of two", no, t(2, 1, 1, 0), t(4, 2, 2, 1));
        refused("windows meet late in a round", no, t(40, 1, 1, 0), t(48, 1, 1, 0));
        refused("windows meet by offsets", no, t(40, 1, 1, 8), t(48, 1, 1, 48));
        refused("more work than ticks", no, t(2, 2, 2, 0), t(3, 1, 3, 0));
        refused("more work than ticks by one", no, t(48, 24, 48, 0), t(48, 25, 48, 48));
        refused("more work than ticks, but no window missed up to m + 2 * h", no, t(24, 9, 18, 0), t(24, 18, 24, 15));
        refused("a window missed only after m + h", no, t(40, 15, 20, 13), t(5, 2, 5, 25));
    }

    private static void tooLong() {
        refused("a round above 240", TabledExecutive.LONG, t(48, 1, 1, 0), t(47, 1, 1, 0));
        refused("LONG wins over INFEASIBLE", TabledExecutive.LONG, t(48, 48, 48, 0), t(47, 47, 47, 0));
        TabledExecutive x = of(t(40, 1, 1, 0), t(48, 1, 1, 1));
        Expect.same("a round of 240", x.synthesize(), 11);
    }

    private static void manySlots() {
        TabledExecutive x = of(t(4, 1, 1, 18), t(43, 10, 29, 36));
        Expect.same("60 slots", x.synthesize(), 60);
        Expect.same("60 slots", x.slots(), 60);
        Expect.yes("60 slots: good", x.check());
        refused("61 slots", TabledExecutive.LONG, t(35, 13, 35, 48), t(2, 1, 2, 34));
        refused("LONG by slots is only behind INFEASIBLE", TabledExecutive.INFEASIBLE,
                t(2, 1, 1, 0), t(48, 24, 48, 0), t(5, 1, 5, 0));
    }

    private static void modes() {
        TabledExecutive x = of(t(4, 1, 4, 0));
        x.slot(0, 3, 1, 0);
        x.slot(1, 9, 9, 0);
        Expect.same("it replaces the table", x.synthesize(), 1);
        Expect.table("it replaces the table", x, "0+1:0");
        x.check();
        Expect.state("synthesize in RUN", x::synthesize);
        Expect.table("it changed nothing", x, "0+1:0");
        x.stop();
        Expect.same("the same again after a run", x.synthesize(), 1);
        x.task(4, 1, 1, 0);
        Expect.same("and with a task more", x.synthesize(), 2);
        Expect.table("and with a task more", x, "0+1:1 1+1:0");
    }

    /** The synthesis before ended amid a job of task 1; nothing of it may be seen in the next one. */
    private static void afterInfeasible() {
        TabledExecutive x = of(t(48, 20, 20, 0), t(48, 20, 20, 0));
        Expect.same("infeasible at first", x.synthesize(), TabledExecutive.INFEASIBLE);
        x.clear();
        x.task(4, 1, 1, 0);
        x.task(4, 1, 1, 47);
        Expect.same("then feasible", x.synthesize(), 2);
        Expect.table("then feasible", x, "0+1:0 3+1:1");
    }
}
