/** What the tests share: they compare answers, tell each wrong one, and end with exit code 1 if there was one. */
final class Expect {
    interface Call {
        void make();
    }

    private static int wrong = 0;
    private static int seen = 0;
    private static int sentences = 0;
    private static String sentence = "";

    private Expect() {
    }

    /** The sentence of the document that the answers from here on are due to; a fault is told with it. */
    static void sentence(String words) {
        sentences++;
        sentence = " [" + words + "]";
    }

    static void same(String what, long got, long want) {
        seen++;
        if (got != want) {
            tell(what + ": got " + got + ", due is " + want);
        }
    }

    static void yes(String what, boolean got) {
        same(what, got ? 1 : 0, 1);
    }

    static void no(String what, boolean got) {
        same(what, got ? 1 : 0, 0);
    }

    /** The call must throw just this class, not one below it. */
    static void thrown(String what, Class<? extends RuntimeException> due, Call call) {
        seen++;
        String got = nameOfThrown(call);
        if (!got.equals(due.getSimpleName())) {
            tell(what + ": threw " + got + ", due is " + due.getSimpleName());
        }
    }

    static void state(String what, Call call) {
        thrown(what, IllegalStateException.class, call);
    }

    static void index(String what, Call call) {
        thrown(what, IndexOutOfBoundsException.class, call);
    }

    static void argument(String what, Call call) {
        thrown(what, IllegalArgumentException.class, call);
    }

    /** The table's slots, each written start+length:task, in their order. */
    static void table(String what, TabledExecutive x, String want) {
        StringBuilder got = new StringBuilder();
        for (int i = 0; i < x.slots(); i++) {
            got.append(i == 0 ? "" : " ").append(x.slotOf(i, 0)).append('+').append(x.slotOf(i, 1))
                    .append(':').append(x.slotOf(i, 2));
        }
        text(what, got.toString(), want);
    }

    static void text(String what, String got, String want) {
        seen++;
        if (!got.equals(want)) {
            tell(what + ": got " + got + ", due is " + want);
        }
    }

    static String nameOfThrown(Call call) {
        try {
            call.make();
        } catch (RuntimeException e) {
            return e.getClass().getSimpleName();
        }
        return "nothing";
    }

    static void tell(String fault) {
        wrong++;
        System.out.println(fault + sentence);
    }

    static void end() {
        String of = sentences == 0 ? "" : " for " + sentences + " sentences";
        System.out.println(seen + " answers looked at" + of + ", " + wrong + " wrong");
        if (wrong != 0) {
            System.exit(1);
        }
    }
}
