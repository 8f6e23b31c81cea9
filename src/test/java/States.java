/** Objects in the states that calls are refused in, each made by a few calls and always alike. */
final class States {
    private States() {
    }

    /** EDIT: three tasks, one for each way to end, and a good table; no run yet. */
    static TabledExecutive planned() {
        TabledExecutive x = new TabledExecutive();
        x.task(6, 3, 6, 0);
        x.task(12, 2, 9, 2);
        x.task(6, 1, 6, 1);
        Words.loadAt(x, 0, Words.more(1, 1), Words.write(1, 0), Words.jump(0));
        Words.loadAt(x, 40, Words.read(1, 0), Words.HALT);
        Words.loadAt(x, 16, Words.BREAK);
        x.load(63, Words.set(3, 1));
        x.entry(1, 40);
        x.synthesize();
        return x;
    }

    /** RUN, amid a job of task 0; jobs were done, broken and killed before, and a shared word was written. */
    static TabledExecutive running() {
        TabledExecutive x = planned();
        x.check();
        x.ticks(13);
        return x;
    }

    /** EDIT after that run: its counts, shared words and time can be seen. */
    static TabledExecutive stopped() {
        TabledExecutive x = running();
        x.stop();
        return x;
    }

    static TabledExecutive sixTasks() {
        TabledExecutive x = new TabledExecutive();
        for (int t = 0; t < 6; t++) {
            x.task(6, 1, 6, t);
            x.load(8 * t, t % 2 == 0 ? Words.BREAK : Words.set(0, 1));
        }
        x.synthesize();
        return x;
    }

    static TabledExecutive sixtySlots() {
        TabledExecutive x = new TabledExecutive();
        x.task(48, 3, 48, 0);
        x.task(40, 2, 40, 5);
        for (int i = 0; i < 60; i++) {
            x.slot(i, 239 - i, 1 + i, i % 2);
        }
        return x;
    }

    /** RUN without tasks. */
    static TabledExecutive runningEmpty() {
        TabledExecutive x = new TabledExecutive();
        x.check();
        x.ticks(3);
        return x;
    }
}
