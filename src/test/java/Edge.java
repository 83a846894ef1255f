/** Both sides of a boundary: what is still allowed, and what is refused and must then leave all as it was. */
final class Edge {
    interface State {
        LampCounts make();
    }

    interface Call {
        long on(LampCounts x);
    }

    interface OfNumber {
        long on(LampCounts x, int number);
    }

    private Edge() {
    }

    static void allows(String sentence, State state, Call call) {
        LampCounts x = state.make();
        Check.holds(sentence + ": is allowed", Outcome.isAnswer(Outcome.of(() -> call.on(x))));
    }

    static void answers(String sentence, State state, long want, Call call) {
        LampCounts x = state.make();
        Check.same(sentence, want, Outcome.of(() -> call.on(x)));
    }

    static void refuses(String sentence, State state, long exception, Call call) {
        for (int way = 0; way < Told.WAYS; way++) {
            LampCounts touched = state.make();
            LampCounts untouched = state.make();
            Check.same(sentence, exception, Outcome.of(() -> call.on(touched)));
            boolean same = Told.whole(touched, way).equals(Told.whole(untouched, way));
            Check.holds(sentence + ": a call that throws changes nothing, way " + way, same);
        }
    }

    /** There are those from 0 on, so many of them, and no others. */
    static void number(String sentence, State state, int size, OfNumber call) {
        sides(sentence, state, new int[] {0, size - 1}, Outcome.INDEX, call);
    }

    static void range(String sentence, State state, int least, int most, OfNumber call) {
        sides(sentence, state, new int[] {least, most}, Outcome.ARGUMENT, call);
    }

    private static void sides(String sentence, State state, int[] ends, long exception, OfNumber call) {
        int least = ends[0];
        int most = ends[1];
        for (int inside : new int[] {least, least + (most - least) / 2, most}) {
            if (inside >= least && inside <= most) {
                allows(sentence + ", " + inside, state, x -> call.on(x, inside));
            }
        }
        // an empty range refuses both neighbours of its ends as well
        for (int outside : new int[] {least - 1, most + 1, -1, Integer.MIN_VALUE, Integer.MAX_VALUE}) {
            if (outside < least || outside > most) {
                refuses(sentence + ", " + outside, state, exception, x -> call.on(x, outside));
            }
        }
    }
}
