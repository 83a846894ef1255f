/** Counts what holds and what does not, and prints what does not. */
final class Check {
    interface Call {
        long run();
    }

    private static int passed = 0;
    private static int failed = 0;

    private Check() {
    }

    static void holds(String what, boolean held) {
        if (held) {
            passed++;
        } else {
            failed++;
            System.out.println("FAILED " + what);
        }
    }

    static void same(String what, long want, long got) {
        holds(what + ": due is " + want + ", answered " + got, want == got);
    }

    static void index(String what, Call call) {
        same(what, Outcome.INDEX, Outcome.of(call));
    }

    static void argument(String what, Call call) {
        same(what, Outcome.ARGUMENT, Outcome.of(call));
    }

    static void state(String what, Call call) {
        same(what, Outcome.STATE, Outcome.of(call));
    }

    static boolean report() {
        System.out.println(passed + " passed, " + failed + " failed");
        return failed == 0 && passed > 0;
    }
}
