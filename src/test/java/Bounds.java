import java.util.function.IntToLongFunction;

/** What the groups of boundary tests have in common. */
abstract class Bounds extends Desks {
    final Sentences sentences;

    Bounds(Sentences sentences) {
        this.sentences = sentences;
    }

    abstract void run();

    final void due(String call, long got, long want) {
        sentences.due(call, got, want);
    }

    /** The same answer is due for each of the numbers, which stand for # in the call. */
    final void dueEach(String call, IntToLongFunction ask, long want, int... numbers) {
        for (int number : numbers) due(call.replace("#", String.valueOf(number)), ask.applyAsLong(number), want);
    }

    final void dueFailure(ShowDesk x, int i, int what, int listener, int step) {
        due("failure(" + i + ", 0)", x.failure(i, 0), what);
        due("failure(" + i + ", 1)", x.failure(i, 1), listener);
        due("failure(" + i + ", 2)", x.failure(i, 2), step);
    }

    final void dueFailures(ShowDesk x, int many) {
        due("told(4)", x.told(4), many);
    }

    /** A listener's program fails at its last step: with that failure, and the value stays. */
    final void dueFault(String what, ShowDesk x, int fault, int... program) {
        int listener = add(x, 0, AT, 0, program);
        x.send(0, 77);
        due(what + ": told(4)", x.told(4), 1);
        dueFailure(x, 0, fault, listener, program.length / 2 - 1);
        due(what + ": value()", x.value(), 77);
    }

    static long[] edgesOfLongs() {
        return new long[] {Long.MIN_VALUE, LEAST - 1L, LEAST, -1, 0, 1, MOST, MOST + 1L, Long.MAX_VALUE};
    }
}
