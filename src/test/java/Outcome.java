/** The answer of a call as one number: what it returned, or which exception it threw. */
final class Outcome {
    static final long INDEX = Long.MIN_VALUE + 1;
    static final long ARGUMENT = Long.MIN_VALUE + 2;
    static final long STATE = Long.MIN_VALUE + 3;
    static final long OTHER = Long.MIN_VALUE + 4;

    private Outcome() {
    }

    static long of(Check.Call call) {
        try {
            return call.run();
        } catch (RuntimeException e) {
            return ofClass(e.getClass());
        }
    }

    /** The exact class counts: an ArrayIndexOutOfBoundsException of the machine is no answer. */
    private static long ofClass(Class<?> thrown) {
        if (thrown == IndexOutOfBoundsException.class) {
            return INDEX;
        }
        if (thrown == IllegalArgumentException.class) {
            return ARGUMENT;
        }
        return thrown == IllegalStateException.class ? STATE : OTHER;
    }
}
