import java.util.TreeSet;

/** The boundaries that the document's terms name: of tasks, of slots, of the round, and of a good table. */
public final class TermsEdgeTest {
    private static final int MIN = Integer.MIN_VALUE;
    private static final int MAX = Integer.MAX_VALUE;

    public static void main(String[] args) {
        taskNumbers();
        partsOfTask();
        partsOfTaskFarOff();
        offsets();
        entries();
        releases();
        windowsLastToTheirEnd();
        round();
        roundWithoutTasks();
        sixtySlots();
        slotCovers();
        slotsLieInTheRound();
        slotsInTheLongestRound();
        noTickTwice();
        justTheWork();
        windowsModuloRound();
        everyWindow();
        slotsOfTheTaskCount();
        Expect.end();
    }

    private static TabledExecutive of(int period, int work, int deadline, int offset) {
        TabledExecutive x = new TabledExecutive();
        x.task(period, work, deadline, offset);
        return x;
    }

    /** A good table is left again, so that the object can be used on. */
    private static boolean isGood(TabledExecutive x) {
        boolean good = x.check();
        if (good) {
            x.stop();
        }
        return good;
    }

    /** Slots of one tick each: letter c of the text is the task that has tick c, a dot is none. */
    private static void unitSlots(TabledExecutive x, String ticks) {
        for (int i = x.slots(); i > 0; i--) {
            x.drop();
        }
        for (int c = 0; c < ticks.length(); c++) {
            if (ticks.charAt(c) != '.') {
                x.slot(x.slots(), c, 1, ticks.charAt(c) - '0');
            }
        }
    }

    private static void taskNumbers() {
        Expect.sentence("TASKS are numbered from 0 as they are added, at most 6.");
        TabledExecutive x = new TabledExecutive();
        for (int again = 0; again < 2; again++) {
            for (int t = 0; t < 6; t++) {
                Expect.same("its number", x.task(2, 1, 1, 0), t);
            }
            Expect.state("a seventh", () -> x.task(2, 1, 1, 0));
            x.clear();
        }
        Refused.state("a seventh", States::sixTasks, y -> y.task(2, 1, 1, 0));
    }

    /** Each task with parts of -1 .. 50: taken and with its round, or refused and none. */
    private static void partsOfTask() {
        Expect.sentence("A task has a PERIOD p, 1 .. 48, WORK w and a DEADLINE d with 1 <= w <= d <= p");
        for (int p = -1; p <= 50; p++) {
            for (int w = -1; w <= 50; w++) {
                for (int d = -1; d <= 50; d++) {
                    boolean due = p >= 1 && p <= 48 && w >= 1 && w <= d && d <= p;
                    takes(due, p, w, d, 0);
                }
            }
        }
        takes(true, 1, 1, 1, 0);
        takes(true, 48, 48, 48, 0);
        takes(true, 48, 1, 1, 0);
        takes(true, 48, 1, 48, 0);
        takes(false, 0, 1, 1, 0);
        takes(false, 49, 1, 1, 0);
        takes(false, 49, 49, 49, 0);
        takes(false, 48, 0, 48, 0);
        takes(false, 48, 5, 4, 0);
        takes(false, 48, 1, 49, 0);
        takes(false, 48, 49, 49, 0);
    }

    private static void takes(boolean due, int p, int w, int d, int f) {
        String what = "task " + p + " " + w + " " + d + " " + f;
        TabledExecutive x = new TabledExecutive();
        if (due) {
            Expect.same(what, x.task(p, w, d, f), 0);
        } else {
            Expect.argument(what, () -> x.task(p, w, d, f));
        }
        Expect.same(what + ": round", x.round(), due ? p : 1);
    }

    private static void partsOfTaskFarOff() {
        Expect.sentence("Promise 3: IllegalArgument: something is not as said.");
        for (int far : new int[] {MIN, MIN + 1, -48, -6, 96, 1 << 16, MAX - 1, MAX}) {
            takes(false, far, 1, 1, 0);
            takes(false, far, far, far, 0);
            takes(false, 6, far, 6, 0);
            takes(false, 6, 1, far, 0);
            takes(false, 6, far, far, 0);
            takes(false, 6, 1, 6, far);
        }
    }

    private static void offsets() {
        Expect.sentence("an OFFSET f, 0 .. 48");
        for (int f = -1; f <= 49; f++) {
            takes(f >= 0 && f <= 48, 1, 1, 1, f);
            takes(f >= 0 && f <= 48, 48, 48, 48, f);
        }
        for (int f = 0; f <= 48; f++) {
            TabledExecutive x = of(1, 1, 1, f);
            x.slot(0, 0, 1, 0);
            Expect.yes("good", x.check());
            for (int c = 0; c <= f + 1; c++) {
                Expect.same("offset " + f + ", tick " + c, x.tick(), c < f ? TabledExecutive.NONE : 100);
            }
        }
    }

    private static void entries() {
        Expect.sentence("and an ENTRY, 0 .. 63.");
        for (int place = -1; place <= 64; place++) {
            TabledExecutive x = of(1, 1, 1, 0);
            x.load(0, Words.set(0, 1));
            int to = place;
            if (place < 0 || place > 63) {
                Expect.index("entry " + place, () -> x.entry(0, to));
                continue;
            }
            x.load(place, Words.BREAK);
            x.entry(0, place);
            x.slot(0, 0, 1, 0);
            x.check();
            Expect.same("entry " + place, x.tick(), 200);
        }
    }

    private static void releases() {
        Expect.sentence("Its JOBS k = 0, 1, .. are RELEASED at the times f + k * p");
        int[][] tasks = {{1, 0}, {1, 48}, {48, 0}, {48, 1}, {48, 47}, {48, 48}, {5, 4}, {5, 5}, {5, 6}, {7, 48}};
        for (int[] t : tasks) {
            int p = t[0];
            int f = t[1];
            TabledExecutive x = of(p, 1, 1, f);
            x.slot(0, f % p, 1, 0);
            Expect.yes("good", x.check());
            for (int c = 0; c < f + 3 * p + 1; c++) {
                boolean released = c == f || c > f && (c - f) % p == 0;
                Expect.same("period " + p + " offset " + f + " tick " + c, x.tick(),
                        released ? 100 : TabledExecutive.NONE);
            }
            Expect.same("jobs", x.count(0, 0), 4);
        }
    }

    private static void windowsLastToTheirEnd() {
        Expect.sentence("job k's WINDOW is the d ticks from then on. (Tick n is that from time n to n + 1.)");
        for (int f = 0; f <= 13; f++) {
            for (int d = 1; d <= 6; d++) {
                TabledExecutive x = of(6, 1, d, f);
                for (int c = 0; c < 6; c++) {
                    x.slot(0, c, 1, 0);
                    boolean inside = (c + 18 - f) % 6 < d;
                    Expect.same("deadline " + d + " offset " + f + " tick " + c, isGood(x) ? 1 : 0, inside ? 1 : 0);
                }
            }
        }
    }

    private static int leastCommon(int p, int q) {
        int h = p;
        while (h % q != 0) {
            h += p;
        }
        return h;
    }

    private static void round() {
        Expect.sentence("The ROUND h is the least common multiple of all periods");
        for (int p = 1; p <= 48; p++) {
            for (int q = 1; q <= 48; q++) {
                TabledExecutive x = of(p, 1, 1, 0);
                Expect.same("period " + p, x.round(), p);
                x.task(q, 1, 1, 48);
                int h = leastCommon(p, q);
                Expect.same("periods " + p + " " + q, x.round(), h > 240 ? TabledExecutive.LONG : h);
                int r = 1 + (7 * p + 5 * q) % 48;
                int h3 = leastCommon(h, r);
                x.task(r, 1, 1, 0);
                Expect.same("periods " + p + " " + q + " " + r, x.round(), h3 > 240 ? TabledExecutive.LONG : h3);
            }
        }
    }

    private static void roundWithoutTasks() {
        Expect.sentence("1 without tasks.");
        TabledExecutive x = new TabledExecutive();
        Expect.same("at first", x.round(), 1);
        x.task(1, 1, 1, 0);
        Expect.same("with a task of period 1", x.round(), 1);
        x.task(7, 1, 1, 0);
        Expect.same("with one of period 7", x.round(), 7);
        x.clear();
        Expect.same("after clear", x.round(), 1);
        Expect.same("in RUN without tasks", States.runningEmpty().round(), 1);
    }

    private static void sixtySlots() {
        Expect.sentence("THE TABLE has at most 60 SLOTS, numbered from 0: each a START, a LENGTH and a task.");
        TabledExecutive x = new TabledExecutive();
        x.task(1, 1, 1, 0);
        x.task(1, 1, 1, 0);
        for (int i = 0; i < 60; i++) {
            x.slot(i, 3 * i, 240 - i, i % 2);
            Expect.same("slots", x.slots(), i + 1);
        }
        for (int i = 0; i < 60; i++) {
            Expect.same("start of " + i, x.slotOf(i, 0), 3 * i);
            Expect.same("length of " + i, x.slotOf(i, 1), 240 - i);
            Expect.same("task of " + i, x.slotOf(i, 2), i % 2);
        }
        Refused.index("a slot more", States::sixtySlots, y -> y.slot(60, 0, 1, 0));
    }

    private static void slotCovers() {
        Expect.sentence("A slot covers the ticks start .. start + length - 1.");
        for (int start = 0; start < 8; start++) {
            for (int length = 1; start + length <= 8; length++) {
                TabledExecutive x = of(8, length, 8, 0);
                x.load(0, Words.jump(0));
                x.slot(0, start, length, 0);
                Expect.yes("good", x.check());
                for (int c = 0; c < 24; c++) {
                    int last = start + length - 1;
                    int due = c % 8 < start || c % 8 > last ? TabledExecutive.NONE : c % 8 == last ? 300 : 0;
                    Expect.same("slot " + start + " " + length + " tick " + c, x.tick(), due);
                }
            }
        }
    }

    private static void slotsLieInTheRound() {
        Expect.sentence("A CHECK finds a table GOOD if all slots lie in 0 .. h - 1");
        for (int h : new int[] {1, 2, 7, 47, 48}) {
            TabledExecutive x = of(h, h, h, 0);
            x.slot(0, 0, h, 0);
            Expect.yes("just the round " + h, isGood(x));
            x.slot(0, 0, h + 1, 0);
            Expect.no("a tick over the round " + h, isGood(x));
            x.slot(0, 0, 240, 0);
            Expect.no("far over the round " + h, isGood(x));
            x.slot(0, 0, h, 0);
            for (int start : new int[] {h, h + 1, 2 * h, 239}) {
                x.slot(1, start, 1, 0);
                Expect.no("a slot at " + start + " beside the round " + h, isGood(x));
                x.drop();
            }
            x.slot(1, 239, 240, 0);
            Expect.no("the last slot that there can be", isGood(x));
            x.drop();
            Expect.yes("just the round " + h + " again", isGood(x));
        }
        Expect.yes("the last tick alone", isGood(oneSlotOf(6, 5, 1)));
        Expect.no("the last tick and one more", isGood(oneSlotOf(6, 5, 2)));
        Expect.no("the first tick of the next round", isGood(oneSlotOf(6, 6, 1)));
    }

    /** A task with as much work as the slot is long, and all of the period for it. */
    private static TabledExecutive oneSlotOf(int period, int start, int length) {
        TabledExecutive x = of(period, length, period, 0);
        x.slot(0, start, length, 0);
        return x;
    }

    /** Periods 48 and 40; the last tick of the round is one of task 0. */
    private static void slotsInTheLongestRound() {
        Expect.sentence("A CHECK finds a table GOOD if all slots lie in 0 .. h - 1");
        TabledExecutive x = of(48, 1, 48, 0);
        x.task(40, 1, 40, 0);
        for (int k = 0; k < 6; k++) {
            x.slot(k, 40 * k, 1, 1);
        }
        for (int k = 0; k < 4; k++) {
            x.slot(6 + k, 48 * k + 1, 1, 0);
        }
        x.slot(10, 239, 1, 0);
        Expect.yes("tick 239 of 240", isGood(x));
        x.slot(10, 239, 2, 0);
        Expect.no("tick 240 too", isGood(x));
        x.slot(10, 239, 240, 0);
        Expect.no("240 ticks from 239 on", isGood(x));
    }

    private static void noTickTwice() {
        Expect.sentence("no two cover the same tick");
        TabledExecutive x = of(6, 6, 6, 0);
        inBothOrders(x, true, new int[] {0, 3, 0}, new int[] {3, 3, 0});
        inBothOrders(x, false, new int[] {0, 4, 0}, new int[] {3, 3, 0});
        inBothOrders(x, false, new int[] {0, 3, 0}, new int[] {2, 4, 0});
        inBothOrders(x, false, new int[] {0, 6, 0}, new int[] {0, 6, 0});
        inBothOrders(x, false, new int[] {0, 6, 0}, new int[] {5, 1, 0});
        inBothOrders(x, false, new int[] {0, 6, 0}, new int[] {0, 1, 0});
        inBothOrders(x, false, new int[] {0, 6, 0}, new int[] {2, 2, 0});
        x = of(6, 3, 6, 0);
        x.task(6, 3, 6, 0);
        inBothOrders(x, true, new int[] {0, 3, 0}, new int[] {3, 3, 1});
        inBothOrders(x, false, new int[] {0, 3, 0}, new int[] {2, 3, 1});
        inBothOrders(x, false, new int[] {3, 3, 0}, new int[] {1, 3, 1});
        inBothOrders(x, false, new int[] {0, 3, 0}, new int[] {0, 3, 1});
    }

    /** A table of two slots: start, length and task of each. */
    private static void inBothOrders(TabledExecutive x, boolean due, int[] one, int[] other) {
        for (int first = 0; first < 2; first++) {
            x.slot(first, one[0], one[1], one[2]);
            x.slot(1 - first, other[0], other[1], other[2]);
            String what = "slots at " + one[0] + " and " + other[0] + ", first at " + first;
            Expect.same(what, isGood(x) ? 1 : 0, due ? 1 : 0);
        }
    }

    /** All ways to give ticks of a round of 5 to one task. */
    private static void justTheWork() {
        Expect.sentence("each task t has just w ticks in each of its windows and none outside them");
        for (int f = 0; f <= 6; f++) {
            for (int d = 1; d <= 5; d++) {
                for (int w = 1; w <= d; w++) {
                    TabledExecutive x = of(5, w, d, f);
                    TreeSet<Integer> window = new TreeSet<>();
                    for (int i = 0; i < d; i++) {
                        window.add((f + i) % 5);
                    }
                    everySetOfTicks(x, window, w);
                }
            }
        }
    }

    private static void everySetOfTicks(TabledExecutive x, TreeSet<Integer> window, int work) {
        for (int set = 0; set < 32; set++) {
            StringBuilder ticks = new StringBuilder();
            boolean inside = true;
            for (int c = 0; c < 5; c++) {
                boolean has = (set >> c & 1) == 1;
                ticks.append(has ? '0' : '.');
                inside &= !has || window.contains(c);
            }
            unitSlots(x, ticks.toString());
            boolean due = inside && Integer.bitCount(set) == work;
            Expect.same("ticks " + ticks + " work " + work + " window " + window, isGood(x) ? 1 : 0, due ? 1 : 0);
        }
    }

    private static void windowsModuloRound() {
        Expect.sentence("its windows here are the ticks r, r + 1, .. r + d - 1, all modulo h");
        TabledExecutive x = of(6, 2, 4, 4);
        ticksAre(x, true, "....00");
        ticksAre(x, true, "0....0");
        ticksAre(x, true, "00....");
        ticksAre(x, false, ".00...");
        ticksAre(x, false, "...00.");
        ticksAre(x, false, "00...0");
        x = of(6, 2, 4, 46);
        ticksAre(x, true, "0...0.");
        ticksAre(x, false, "..0.0.");
        x = of(1, 1, 1, 48);
        ticksAre(x, true, "0");
    }

    private static void ticksAre(TabledExecutive x, boolean due, String ticks) {
        unitSlots(x, ticks);
        Expect.same(ticks, isGood(x) ? 1 : 0, due ? 1 : 0);
    }

    private static void everyWindow() {
        Expect.sentence("for each r = (f + k * p) modulo h, k = 0, 1, .. h / p - 1");
        TabledExecutive x = of(3, 1, 2, 0);
        x.task(12, 1, 12, 0);
        ticksAre(x, true, "0.1.0.0...0.");
        ticksAre(x, false, "..1.0.0...0.");
        ticksAre(x, false, "0.1...0...0.");
        ticksAre(x, false, "0.1.0.....0.");
        ticksAre(x, false, "0.1.0.0.....");
        ticksAre(x, false, "0.100.0.....");
        ticksAre(x, false, "0.1.0.0...00");
        ticksAre(x, false, "0.1.0.0....0");
        ticksAre(x, false, "0.1.0.0..00.");
        x.clear();
        x.task(3, 1, 2, 5);
        x.task(6, 1, 6, 0);
        ticksAre(x, true, "0.0..1");
        ticksAre(x, true, "..10.0");
        ticksAre(x, true, "01.0..");
        ticksAre(x, false, "0..10.");
        ticksAre(x, false, "0.0.10");
        ticksAre(x, false, ".0.0.1");
        ticksAre(x, false, "0.00.1");
    }

    private static void slotsOfTheTaskCount() {
        Expect.sentence("and what slots of t cover counts.");
        TabledExecutive x = of(6, 2, 3, 0);
        x.task(6, 2, 3, 3);
        ticksAre(x, true, "00.11.");
        ticksAre(x, false, "11.00.");
        ticksAre(x, false, "01.11.");
        ticksAre(x, false, "01.01.");
        ticksAre(x, false, "00.00.");
        ticksAre(x, false, "00111.");
    }
}
