import java.util.List;
import java.util.function.IntSupplier;

/**
 * A call that throws changes nothing: of two objects made alike one makes the call, and then both are asked the same
 * questions. As a question may change an object, each list of questions has two objects of its own.
 */
final class Refused {
    interface Maker {
        TabledExecutive make();
    }

    interface Call {
        void make(TabledExecutive x);
    }

    private interface Questions {
        String ask(TabledExecutive x);
    }

    private static final List<Questions> ALL = List.of(
            Refused::look, Refused::goOn, Refused::runAgain, Refused::planAgain, Refused::countTasks,
            Refused::countSlots, Refused::words);

    private Refused() {
    }

    static void state(String what, Maker maker, Call call) {
        refused(what, IllegalStateException.class, maker, call);
    }

    static void index(String what, Maker maker, Call call) {
        refused(what, IndexOutOfBoundsException.class, maker, call);
    }

    static void argument(String what, Maker maker, Call call) {
        refused(what, IllegalArgumentException.class, maker, call);
    }

    private static void refused(String what, Class<? extends RuntimeException> due, Maker maker, Call call) {
        for (Questions questions : ALL) {
            TabledExecutive x = maker.make();
            Expect.thrown(what, due, () -> call.make(x));
            Expect.text(what + " changed something", questions.ask(x), questions.ask(maker.make()));
        }
    }

    private static String answer(IntSupplier call) {
        try {
            return call.getAsInt() + " ";
        } catch (RuntimeException e) {
            return e.getClass().getSimpleName() + " ";
        }
    }

    private static String done(Expect.Call call) {
        return Expect.nameOfThrown(call) + " ";
    }

    /** All that can be seen without a change. */
    static String look(TabledExecutive x) {
        return table(x) + "round " + x.round() + " " + results(x);
    }

    private static String table(TabledExecutive x) {
        StringBuilder all = new StringBuilder("table ");
        for (int i = 0; i < x.slots(); i++) {
            for (int what = 0; what < 3; what++) {
                all.append(x.slotOf(i, what)).append(what == 2 ? ' ' : ',');
            }
        }
        return all.toString();
    }

    private static String results(TabledExecutive x) {
        StringBuilder all = new StringBuilder("time " + x.time() + " counts ");
        for (int i = 0; i < 24; i++) {
            int task = i / 4;
            int what = i % 4;
            all.append(answer(() -> x.count(task, what)));
        }
        all.append("shared ");
        for (int place = 0; place < 16; place++) {
            all.append(x.shared(place)).append(' ');
        }
        return all.toString();
    }

    /** The mode, the jobs as they stand, and what comes of them. */
    private static String goOn(TabledExecutive x) {
        StringBuilder all = new StringBuilder("ticks ");
        for (int i = 0; i < 50; i++) {
            all.append(answer(x::tick));
        }
        return all + results(x);
    }

    /** The table with the tasks and their entries. */
    private static String runAgain(TabledExecutive x) {
        return "stop " + done(x::stop) + "check " + answer(() -> x.check() ? 1 : 0) + goOn(x);
    }

    /** The tasks' parts. */
    private static String planAgain(TabledExecutive x) {
        return "stop " + done(x::stop) + "synthesize " + answer(x::synthesize) + table(x) + runAgain(x);
    }

    private static String countTasks(TabledExecutive x) {
        StringBuilder all = new StringBuilder("stop " + done(x::stop) + "tasks ");
        for (int i = 0; i < 7; i++) {
            all.append(answer(() -> x.task(1, 1, 1, 0)));
        }
        return all.toString();
    }

    private static String countSlots(TabledExecutive x) {
        StringBuilder all = new StringBuilder("stop " + done(x::stop) + "drops ");
        for (int i = 0; i < 61; i++) {
            all.append(done(x::drop));
        }
        return all.toString();
    }

    /** How the instruction at each place ends. */
    private static String words(TabledExecutive x) {
        StringBuilder all = new StringBuilder("stop " + done(x::stop) + "clear " + done(x::clear) + "words ");
        x.task(1, 1, 1, 0);
        x.slot(0, 0, 1, 0);
        for (int i = 0; i < 64; i++) {
            int place = i;
            all.append(done(() -> x.entry(0, place))).append(answer(() -> x.check() ? 1 : 0))
                    .append(answer(x::tick)).append(done(x::stop));
        }
        return all.toString();
    }
}
