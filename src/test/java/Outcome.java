import java.util.Set;

/** The answer of a call as one number: what it returned, or which exception it threw. */
final class Outcome {
    static final long INDEX = Long.MIN_VALUE + 1;
    static final long ARGUMENT = Long.MIN_VALUE + 2;
    static final long STATE = Long.MIN_VALUE + 3;
    static final long OTHER = Long.MIN_VALUE + 4;

    private static final Set<String> THROWERS = Set.of("LampCounts", "Model");

    private Outcome() {
    }

    static boolean isAnswer(long outcome) {
        return outcome > OTHER;
    }

    static long of(Check.Call call) {
        try {
            return call.run();
        } catch (RuntimeException e) {
            return ofThrown(e);
        }
    }

    /** The class and the place count: what the machine or a list throws by itself is no answer. */
    private static long ofThrown(RuntimeException e) {
        StackTraceElement[] trace = e.getStackTrace();
        if (trace.length == 0 || !THROWERS.contains(trace[0].getClassName())) {
            return OTHER;
        }
        Class<?> thrown = e.getClass();
        if (thrown == IndexOutOfBoundsException.class) {
            return INDEX;
        }
        if (thrown == IllegalArgumentException.class) {
            return ARGUMENT;
        }
        return thrown == IllegalStateException.class ? STATE : OTHER;
    }
}
