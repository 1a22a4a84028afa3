/** Boundary cases of promises 5 listen, 6 filter, 7 once, 8 step, 9 leave, 21 listener, 22 turn. */
final class ListenerBounds extends Bounds {
    private static final String LISTEN = "A LISTENER, without STEPS: its number.";
    private static final String LISTEN_REFUSED =
        "BAD: also a SCENE (NONE: none) that never was; STATE: that is closed; FULL.";
    private static final String FILTER = "A LISTENER has a FILTER: 1.";
    private static final String FILTER_REFUSED = "BAD: also high below low; STATE: it has GONE.";
    private static final String ONCE = "A LISTENER is for ONCE, or not: what it was (1, 0).";
    private static final String LIKEWISE = "BAD; STATE likewise.";
    private static final String STEP = "A STEP more in a LISTENER's PROGRAM: how many.";
    private static final String STEP_REFUSED =
        "BAD: op is not 0 to 17, n of op 3 not 20 to 29; STATE likewise; FULL (10).";
    private static final String LISTENER = "Of a LISTENER: 0 whether it is there, 1 KIND, 2 PHASE, 3 RANK, "
        + "4 SCENE (NONE), 5 STEPS, 6 for ONCE, 7 how often it was TOLD, 8 its TRAY number.";
    private static final String TURN = "Number i of those that would have a turn, in order, in a PHASE of a CUE of a "
        + "KIND begun now.";
    private static final String TURN_REFUSED = "BAD; NONE.";

    ListenerBounds(Sentences sentences) {
        super(sentences);
    }

    @Override
    void run() {
        listenWithoutSteps();
        listenBad();
        listenState();
        listenFull();
        filterEdges();
        filterBad();
        filterState();
        onceBothWays();
        onceBad();
        onceState();
        stepCounts();
        stepBad();
        stepState();
        stepFull();
        leaveOnce();
        leaveBad();
        leaveState();
        listenerEdges();
        listenerBad();
        turnsOfNow();
        turnBad();
        turnNone();
    }

    private static int toldWith(ShowDesk x, long v) {
        x.send(0, v);
        return x.told(2);
    }

    /** Listener 0 has left, listener 1 was for once, listener 2 was of a scene that is closed. */
    private static ShowDesk deskOfGone() {
        ShowDesk x = roots(1);
        x.scene();
        x.listen(0, AT, 0, NO);
        x.listen(0, AT, 0, NO);
        x.listen(0, AT, 0, 0);
        x.leave(0);
        x.once(1, true);
        x.send(0, 1);
        x.close(0);
        return x;
    }

    private void listenWithoutSteps() {
        sentences.test("Promise 5: listen", LISTEN, "an empty PROGRAM, the edges of ranks and phases");
        ShowDesk x = roots(40);
        due("listen(39, 0, least, NONE)", x.listen(39, BEFORE, LEAST, NO), 0);
        due("listen(0, 2, greatest, NONE)", x.listen(0, AFTER, MOST, NO), 1);
        due("listener(1, 5)", x.listener(1, 5), 0);
        due("send(0, 9)", x.send(0, 9), 1);
        due("told(2)", x.told(2), 1);
        due("value()", x.value(), 9);
        dueFailures(x, 0);
    }

    private void listenBad() {
        sentences.test("Promise 5: listen", LISTEN_REFUSED, "BAD: KIND, PHASE, a SCENE that never was");
        ShowDesk x = roots(2);
        x.scene();
        dueEach("listen(#, 0, 0, NONE)", n -> x.listen(n, 0, 0, NO), BAD, LEAST, NO, -1, 2, 40, MOST);
        dueEach("listen(0, #, 0, NONE)", n -> x.listen(0, n, 0, NO), BAD, LEAST, -1, 3, MOST);
        dueEach("listen(0, 0, 0, #)", n -> x.listen(0, 0, 0, n), BAD, LEAST, -5, -3, -1, 1, 29, 30, MOST);
        due("count(3)", x.count(3), 0);
    }

    private void listenState() {
        sentences.test("Promise 5: listen", LISTEN_REFUSED, "STATE: a SCENE that is closed");
        ShowDesk x = roots(1);
        for (int i = 0; i < 30; i++) x.scene();
        x.close(0);
        x.close(29);
        due("listen(0, 0, 0, 0)", x.listen(0, 0, 0, 0), STATE);
        due("listen(0, 0, 0, 29)", x.listen(0, 0, 0, 29), STATE);
        due("listen(0, 0, 0, 28)", x.listen(0, 0, 0, 28), 0);
        due("count(3)", x.count(3), 1);
    }

    private void listenFull() {
        sentences.test("Promise 5: listen", LISTEN_REFUSED, "FULL: the 201st, though some have GONE");
        ShowDesk x = roots(1);
        for (int i = 0; i < 200; i++) due("listen(0, 0, 0, NONE)", x.listen(0, 0, 0, NO), i);
        due("the 201st", x.listen(0, 0, 0, NO), FULL);
        x.leave(199);
        due("with one gone", x.listen(0, 0, 0, NO), FULL);
        due("count(3)", x.count(3), 200);
        due("count(4)", x.count(4), 199);
    }

    private void filterEdges() {
        sentences.test("Promise 6: filter", FILTER, "low and high are within, one value, all longs");
        ShowDesk x = roots(1);
        x.listen(0, AT, 0, NO);
        due("filter(0, -3, 5)", x.filter(0, -3, 5), 1);
        long[] values = {-4, -3, 5, 6, Long.MIN_VALUE, Long.MAX_VALUE};
        long[] told = {0, 1, 1, 0, 0, 0};
        for (int i = 0; i < values.length; i++) due("told with " + values[i], toldWith(x, values[i]), told[i]);
        due("filter of one value", x.filter(0, 1L << 40, 1L << 40), 1);
        due("told with it", toldWith(x, 1L << 40), 1);
        due("told with one less", toldWith(x, (1L << 40) - 1), 0);
        due("told with one more", toldWith(x, (1L << 40) + 1), 0);
        due("filter of all longs", x.filter(0, Long.MIN_VALUE, Long.MAX_VALUE), 1);
        for (long v : edgesOfLongs()) due("told with " + v, toldWith(x, v), 1);
    }

    private void filterBad() {
        sentences.test("Promise 6: filter", FILTER_REFUSED, "BAD: no such LISTENER, high below low");
        ShowDesk x = roots(1);
        x.listen(0, AT, 0, NO);
        dueEach("filter(#, 0, 1)", n -> x.filter(n, 0, 1), BAD, LEAST, NO, -1, 1, 200, MOST);
        due("filter(0, 5, 4)", x.filter(0, 5, 4), BAD);
        due("filter(0, greatest, least)", x.filter(0, Long.MAX_VALUE, Long.MIN_VALUE), BAD);
        due("filter(0, 1, least)", x.filter(0, 1, Long.MIN_VALUE), BAD);
        due("it has the filter that it had", toldWith(x, 77), 1);
    }

    private void filterState() {
        sentences.test("Promise 6: filter", FILTER_REFUSED, "STATE: GONE in each way");
        ShowDesk x = deskOfGone();
        dueEach("filter(#, 0, 1)", n -> x.filter(n, 0, 1), STATE, 0, 1, 2);
    }

    private void onceBothWays() {
        sentences.test("Promise 7: once", ONCE, "on and off, each twice");
        ShowDesk x = roots(1);
        x.listen(0, AT, 0, NO);
        due("once(0, false)", x.once(0, false), 0);
        due("once(0, true)", x.once(0, true), 0);
        due("once(0, true) again", x.once(0, true), 1);
        due("once(0, false) then", x.once(0, false), 1);
        due("once(0, false) again", x.once(0, false), 0);
        due("told", toldWith(x, 1), 1);
        due("listener(0, 0)", x.listener(0, 0), 1);
    }

    private void onceBad() {
        sentences.test("Promise 7: once", LIKEWISE, "BAD: no such LISTENER");
        ShowDesk x = roots(1);
        x.listen(0, AT, 0, NO);
        dueEach("once(#, true)", n -> x.once(n, true), BAD, LEAST, NO, -1, 1, 200, MOST);
        due("listener(0, 6)", x.listener(0, 6), 0);
    }

    private void onceState() {
        sentences.test("Promise 7: once", LIKEWISE, "STATE: GONE in each way");
        ShowDesk x = deskOfGone();
        dueEach("once(#, false)", n -> x.once(n, false), STATE, 0, 1, 2);
        due("listener(1, 6) stays", x.listener(1, 6), 1);
        due("listener(0, 6) stays", x.listener(0, 6), 0);
    }

    private void stepCounts() {
        sentences.test("Promise 8: step", STEP, "the first to the tenth, every op, any n but of op 3");
        ShowDesk x = roots(1);
        for (int l = 0; l < 4; l++) x.listen(0, AT, 0, NO);
        for (int op = 0; op < 18; op++) due("step(.., " + op + ", 20)", x.step(op / 9, op, 20), op % 9 + 1);
        due("the tenth", x.step(0, 0, LEAST), 10);
        for (int i = 0; i < 10; i++) due("n at the edges", x.step(2, i == 3 ? 0 : i, i % 2 == 0 ? LEAST : MOST), i + 1);
        for (int op = 10; op < 18; op++) due("n at the edges", x.step(3, op, op % 2 == 0 ? LEAST : MOST), op - 9);
        due("listener(0, 5)", x.listener(0, 5), 10);
        due("listener(1, 5)", x.listener(1, 5), 9);
    }

    private void stepBad() {
        sentences.test("Promise 8: step", STEP_REFUSED, "BAD: no such LISTENER, op, n of op 3");
        ShowDesk x = roots(1);
        x.listen(0, AT, 0, NO);
        dueEach("step(#, 0, 1)", n -> x.step(n, 0, 1), BAD, LEAST, NO, -1, 1, 200, MOST);
        dueEach("step(0, #, 20)", n -> x.step(0, n, 20), BAD, LEAST, -1, 18, MOST);
        dueEach("step(0, 3, #)", n -> x.step(0, 3, n), BAD, LEAST, -1, 0, 9, 19, 30, MOST);
        due("listener(0, 5)", x.listener(0, 5), 0);
        due("step(0, 3, 20)", x.step(0, 3, 20), 1);
        due("step(0, 3, 29)", x.step(0, 3, 29), 2);
    }

    private void stepState() {
        sentences.test("Promise 8: step", STEP_REFUSED, "STATE: GONE in each way");
        ShowDesk x = deskOfGone();
        dueEach("step(#, 0, 1)", n -> x.step(n, 0, 1), STATE, 0, 1, 2);
        dueEach("listener(#, 5)", n -> x.listener(n, 5), 0, 0, 1, 2);
    }

    private void stepFull() {
        sentences.test("Promise 8: step", STEP_REFUSED, "FULL: the 11th");
        ShowDesk x = roots(1);
        int l = add(x, 0, AT, 0, times(9, 0, 1));
        due("the tenth", x.step(l, 0, 1), 10);
        due("the 11th", x.step(l, 0, 1), FULL);
        due("listener(0, 5)", x.listener(l, 5), 10);
        x.send(0, 0);
        due("all ten are done", x.value(), 10);
    }

    private void leaveOnce() {
        sentences.test("Promise 9: leave", "A LISTENER GOES: 1.", "the first and the 200th");
        ShowDesk x = roots(1);
        for (int i = 0; i < 200; i++) x.listen(0, AT, 0, NO);
        due("leave(0)", x.leave(0), 1);
        due("leave(199)", x.leave(199), 1);
        due("listener(0, 0)", x.listener(0, 0), 0);
        due("listener(199, 0)", x.listener(199, 0), 0);
        due("count(4)", x.count(4), 198);
        due("told", toldWith(x, 1), 198);
    }

    private void leaveBad() {
        sentences.test("Promise 9: leave", LIKEWISE, "BAD: no such LISTENER");
        ShowDesk x = roots(1);
        x.listen(0, AT, 0, NO);
        dueEach("leave(#)", x::leave, BAD, LEAST, NO, -1, 1, 200, MOST);
        due("count(4)", x.count(4), 1);
    }

    private void leaveState() {
        sentences.test("Promise 9: leave", LIKEWISE, "STATE: GONE in each way");
        ShowDesk x = deskOfGone();
        dueEach("leave(#)", x::leave, STATE, 0, 1, 2);
        due("count(4)", x.count(4), 0);
    }

    private void listenerEdges() {
        sentences.test("Promise 21: listener", LISTENER, "at the edges, and of one that has GONE");
        ShowDesk x = roots(40);
        for (int i = 0; i < 30; i++) x.scene();
        x.listen(39, AFTER, MOST, 29);
        for (int i = 0; i < 9; i++) x.step(0, 0, 1);
        x.step(0, 16, 7);
        x.once(0, true);
        x.send(39, 0);
        long[] gone = {0, 39, AFTER, MOST, 29, 10, 1, 1, 7};
        for (int what = 0; what <= 8; what++) due("listener(0, " + what + ")", x.listener(0, what), gone[what]);
        x.listen(0, BEFORE, LEAST, NO);
        long[] there = {1, 0, BEFORE, LEAST, NO, 0, 0, 0, 0};
        for (int what = 0; what <= 8; what++) due("listener(1, " + what + ")", x.listener(1, what), there[what]);
        for (int i = 0; i < 300; i++) x.send(0, i);
        due("listener(1, 7) after 300 cues", x.listener(1, 7), 300);
    }

    private void listenerBad() {
        sentences.test("Promise 21: listener", "BAD.", "no such LISTENER, what is not 0 to 8");
        ShowDesk x = roots(1);
        x.listen(0, AT, 0, NO);
        dueEach("listener(#, 0)", n -> x.listener(n, 0), BAD, LEAST, NO, -1, 1, 200, MOST);
        dueEach("listener(0, #)", n -> x.listener(0, n), BAD, LEAST, -1, 9, MOST);
    }

    private void turnsOfNow() {
        sentences.test("Promise 22: turn", TURN, "the first and the 200th, whatever the FILTER, none that has GONE");
        ShowDesk x = roots(1);
        for (int i = 0; i < 200; i++) x.listen(0, BEFORE, i, NO);
        x.filter(199, 5, 5);
        due("turn(0, 0, 0)", x.turn(0, 0, 0), 199);
        due("turn(0, 0, 199)", x.turn(0, 0, 199), 0);
        x.leave(199);
        x.once(0, true);
        due("turn(0, 0, 0) then", x.turn(0, 0, 0), 198);
        due("turn(0, 0, 198) then", x.turn(0, 0, 198), 0);
        due("turn(0, 0, 199) then", x.turn(0, 0, 199), NO);
        due("asking is not telling", x.listener(0, 0), 1);
    }

    private void turnBad() {
        sentences.test("Promise 22: turn", TURN_REFUSED, "BAD: no such KIND, no such PHASE");
        ShowDesk x = roots(2);
        x.listen(0, AT, 0, NO);
        dueEach("turn(#, 1, 0)", n -> x.turn(n, AT, 0), BAD, LEAST, NO, -1, 2, 40, MOST);
        dueEach("turn(0, #, 0)", n -> x.turn(0, n, 0), BAD, LEAST, -1, 3, MOST);
    }

    private void turnNone() {
        sentences.test("Promise 22: turn", TURN_REFUSED, "NONE: i is too great, or below 0, or there is nobody");
        ShowDesk x = roots(2);
        x.listen(0, AT, 0, NO);
        x.listen(0, AT, 0, NO);
        due("turn(0, 1, 1)", x.turn(0, AT, 1), 1);
        dueEach("turn(0, 1, #)", n -> x.turn(0, AT, n), NO, LEAST, -1, 2, 200, MOST);
        dueEach("turn(0, #, 0)", n -> x.turn(0, n, 0), NO, BEFORE, AFTER);
        due("turn(1, 1, 0)", x.turn(1, AT, 0), NO);
    }
}
