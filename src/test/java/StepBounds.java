/** Boundary cases of part 2 of the Terms: the STEPS and their FAILURES. */
final class StepBounds extends Bounds {
    private static final String ADD = "STEPS, each with a number n (as an int); v is the VALUE of the PROGRAM; all wrap: "
        + "0 v becomes n more.";
    private static final String SET = "1 v becomes n.";
    private static final String VETO = "2 VETO (in other PHASES: FAILURE 8 LATE).";
    private static final String FAIL = "3 FAILURE n (20 to 29).";
    private static final String DIVIDE = "4 v becomes v / n, 5 v % n (ZERO).";
    private static final String BELOW = "6 if v is below n, the next STEP is passed over.";
    private static final String END = "7 the PROGRAM ends.";
    private static final String LOG = "8 v goes to the LOG.";
    private static final String COME = "9 a LISTENER like LISTENER n comes (KIND, PHASE, RANK, SCENE, FILTER, ONCE, "
        + "PROGRAM as they are; n may have GONE): NULL, if n never came or its SCENE is closed; ROOM, if 200 have come.";
    private static final String GO = "10 LISTENER n GOES: NULL, if it is not there.";
    private static final String CLOSE = "13 SCENE n is closed: NULL, if it is not open.";
    private static final String FAILURES = "FAILURES: 1 NULL, 2 INDEX, 3 CAST, 4 SIZE, 5 ZERO, 6 ROOM, 7 DEEP, 8 LATE, "
        + "9 MANY, 20 to 29.";

    StepBounds(Sentences sentences) {
        super(sentences);
    }

    @Override
    void run() {
        addWraps();
        setToTheEdges();
        vetoLate();
        failEdges();
        divideByZero();
        divideWraps();
        belowAndNotBelow();
        belowAtTheEnd();
        endFirstAndLast();
        logEdges();
        comeNull();
        comeOfClosedScene();
        comeRoom();
        comeAsItIs();
        comeWithTheFilter();
        goNull();
        goOfThoseThatAreThere();
        closeNull();
        failureNumbers();
    }

    private static long made(long v, int... program) {
        ShowDesk x = roots(1);
        add(x, 0, AT, 0, program);
        x.send(0, v);
        return x.value();
    }

    private void addWraps() {
        sentences.test("Terms", ADD, "wraps at both ends, n at the edges of ints");
        due("greatest long and 1", made(Long.MAX_VALUE, 0, 1), Long.MIN_VALUE);
        due("least long and -1", made(Long.MIN_VALUE, 0, -1), Long.MAX_VALUE);
        due("greatest int and itself", made(MOST, 0, MOST), 2L * MOST);
        due("least int and itself", made(LEAST, 0, LEAST), 2L * LEAST);
        due("0", made(7, 0, 0), 7);
    }

    private void setToTheEdges() {
        sentences.test("Terms", SET, "n at the edges of ints");
        due("least", made(Long.MAX_VALUE, 1, LEAST), LEAST);
        due("greatest", made(Long.MIN_VALUE, 1, MOST), MOST);
        due("-1", made(7, 1, -1), -1);
        due("0", made(7, 1, 0), 0);
    }

    private void vetoLate() {
        sentences.test("Terms", VETO, "BEFORE it VETOES, AT and AFTER it is LATE");
        for (int phase = BEFORE; phase <= AFTER; phase++) {
            ShowDesk x = roots(1);
            add(x, 0, phase, 0, 0, 1, 2, 0);
            x.send(0, 5);
            boolean isLate = phase != BEFORE;
            due("told(0)", x.told(0), isLate ? 0 : 1);
            due("told(5)", x.told(5), isLate ? 0 : 1);
            dueFailures(x, isLate ? 1 : 0);
            if (isLate) dueFailure(x, 0, LATE, 0, 1);
            due("value()", x.value(), 5);
            due("meter(0)", x.meter(0), isLate ? 5 : 0);
        }
    }

    private void failEdges() {
        sentences.test("Terms", FAIL, "each of 20 to 29");
        for (int n = 20; n <= 29; n++) dueFault("FAILURE " + n, roots(1), n, 0, 1, 3, n);
    }

    private void divideByZero() {
        sentences.test("Terms", DIVIDE, "ZERO: n is 0");
        for (int op = 4; op <= 5; op++) dueFault("op " + op + " by 0", roots(1), ZERO, 0, 1, op, 0);
        ShowDesk x = roots(1);
        add(x, 0, AT, 0, 4, 0);
        x.send(0, 0);
        due("0 / 0", x.failure(0, 0), ZERO);
    }

    private void divideWraps() {
        sentences.test("Terms", DIVIDE, "the least long by -1, n at the edges of ints, to 0");
        due("least / -1", made(Long.MIN_VALUE, 4, -1), Long.MIN_VALUE);
        due("least % -1", made(Long.MIN_VALUE, 5, -1), 0);
        due("-7 / 2", made(-7, 4, 2), -3);
        due("-7 % 4", made(-7, 5, 4), -3);
        due("7 % -4", made(7, 5, -4), 3);
        due("least / least int", made(Long.MIN_VALUE, 4, LEAST), Long.MIN_VALUE / LEAST);
        due("greatest % greatest int", made(Long.MAX_VALUE, 5, MOST), Long.MAX_VALUE % MOST);
        due("1 / 2", made(1, 4, 2), 0);
    }

    private void belowAndNotBelow() {
        sentences.test("Terms", BELOW, "one below, the same, one above, the edges of ints");
        int[] edges = {LEAST, -1, 0, 5, MOST};
        for (int n : edges) {
            due("one below " + n, made(n - 1L, 6, n, 1, 99, 0, 10), n - 1L + 10);
            due("the same as " + n, made(n, 6, n, 1, 99, 0, 10), 109);
            due("one above " + n, made(n + 1L, 6, n, 1, 99, 0, 10), 109);
        }
        due("the least long", made(Long.MIN_VALUE, 6, LEAST, 1, 99), Long.MIN_VALUE);
        due("the greatest long", made(Long.MAX_VALUE, 6, MOST, 1, 99), 99);
    }

    private void belowAtTheEnd() {
        sentences.test("Terms", BELOW, "no next STEP, the tenth STEP, two in a row");
        ShowDesk x = roots(1);
        int l = add(x, 0, AT, 0, times(9, 0, 1));
        x.step(l, 6, MOST);
        x.send(0, 0);
        due("it ends well", x.value(), 9);
        dueFailures(x, 0);
        due("the next 6 is passed over itself", made(1, 6, 5, 6, 5, 0, 10), 11);
        due("passed over a FAILURE", made(1, 6, 5, 3, 20), 1);
    }

    private void endFirstAndLast() {
        sentences.test("Terms", END, "as the first STEP, as the last; it ends well");
        ShowDesk x = roots(1);
        add(x, 0, AT, 9, 7, 0, 3, 20);
        add(x, 0, AT, 8, 0, 5, 7, 0, 0, 100);
        add(x, 0, AT, 7, 0, 50, 7, 0);
        x.send(0, 1);
        due("value()", x.value(), 56);
        dueFailures(x, 0);
    }

    private void logEdges() {
        sentences.test("Terms", LOG, "the edges of longs; v as it is then, also if the PROGRAM fails");
        ShowDesk x = roots(1);
        add(x, 0, AT, 0, 8, 0, 0, 1, 8, 0, 3, 20);
        for (long v : edgesOfLongs()) {
            x.send(0, v);
            due("logged(0)", x.logged(0), v);
            due("logged(1)", x.logged(1), v + 1);
            due("told(3)", x.told(3), 2);
        }
    }

    private void comeNull() {
        sentences.test("Terms", COME, "NULL: n never came");
        int[] never = {LEAST, NO, -1, 1, 199, 200, MOST};
        for (int n : never) {
            ShowDesk x = roots(1);
            dueFault("like " + n, x, NULL, 0, 1, 9, n);
            due("count(3)", x.count(3), 1);
        }
    }

    private void comeOfClosedScene() {
        sentences.test("Terms", COME, "NULL: its SCENE is closed; one that has GONE from an open SCENE comes");
        ShowDesk x = roots(1);
        x.scene();
        x.scene();
        addIn(x, 0, 0, BEFORE, 3);
        addIn(x, 1, 0, BEFORE, 4);
        x.leave(0);
        x.close(1);
        add(x, 0, AT, 0, 9, 0, 9, 1);
        x.send(0, 1);
        dueFailures(x, 1);
        dueFailure(x, 0, NULL, 2, 1);
        due("count(3)", x.count(3), 4);
        due("listener(3, 0)", x.listener(3, 0), 1);
        due("listener(3, 3)", x.listener(3, 3), 3);
        due("listener(3, 4)", x.listener(3, 4), 0);
    }

    private void comeRoom() {
        sentences.test("Terms", COME, "ROOM: the 200th comes, the 201st does not, though some have GONE");
        ShowDesk x = roots(1);
        for (int i = 0; i < 198; i++) x.listen(0, BEFORE, 0, NO);
        int asker = add(x, 0, AT, 0, 9, 0, 10, 0, 9, 0);
        x.send(0, 1);
        due("count(3)", x.count(3), 200);
        due("count(4)", x.count(4), 199);
        dueFailures(x, 1);
        dueFailure(x, 0, ROOM, asker, 2);
        due("listener(199, 0)", x.listener(199, 0), 1);
        ShowDesk y = roots(1);
        for (int i = 0; i < 199; i++) y.listen(0, BEFORE, 0, NO);
        dueFault("NULL is ahead of ROOM", y, NULL, 9, 200);
    }

    private void comeAsItIs() {
        sentences.test("Terms", COME, "all is taken over, but for the TRAY number and how often it was TOLD");
        ShowDesk x = roots(2);
        x.scene();
        int model = addIn(x, 0, 1, AFTER, LEAST, times(9, 0, 1));
        x.step(model, 16, 7);
        x.filter(model, Long.MAX_VALUE, Long.MAX_VALUE);
        x.send(1, Long.MAX_VALUE);
        x.once(model, true);
        add(x, 0, AT, 0, 9, model);
        x.send(0, 1);
        x.once(model, false);
        x.filter(model, 0, 0);
        long[] like = {1, 1, AFTER, LEAST, 0, 10, 1, 0, 0};
        for (int what = 0; what <= 8; what++) due("listener(2, " + what + ")", x.listener(2, what), like[what]);
        x.send(1, Long.MAX_VALUE - 1);
        due("told(2) below its FILTER", x.told(2), 0);
        x.send(1, Long.MAX_VALUE);
        due("told(2)", x.told(2), 1);
        due("value()", x.value(), Long.MIN_VALUE + 8);
        due("listener(2, 0) then", x.listener(2, 0), 0);
        due("listener(2, 8) then", x.listener(2, 8), 7);
    }

    private void comeWithTheFilter() {
        sentences.test("Terms", COME, "FILTER as it is: below low, low, high, above high");
        ShowDesk x = roots(2);
        int model = add(x, 1, AT, 0);
        x.filter(model, -3, 5);
        add(x, 0, AT, 0, 9, model);
        x.send(0, 1);
        x.leave(model);
        long[] values = {Long.MIN_VALUE, -4, -3, 5, 6, Long.MAX_VALUE};
        long[] told = {0, 0, 1, 1, 0, 0};
        for (int i = 0; i < values.length; i++) {
            x.send(1, values[i]);
            due("told(2) with " + values[i], x.told(2), told[i]);
        }
    }

    private void goNull() {
        sentences.test("Terms", GO, "NULL: never came, GONE, itself if it is for ONCE");
        int[] never = {LEAST, NO, -1, 1, 200, MOST};
        for (int n : never) dueFault("LISTENER " + n, roots(1), NULL, 0, 1, 10, n);
        ShowDesk x = roots(1);
        x.listen(0, BEFORE, 0, NO);
        x.leave(0);
        dueFault("one that has GONE", x, NULL, 10, 0);
        ShowDesk y = roots(1);
        add(y, 0, AT, 0, 10, 0);
        y.once(0, true);
        y.send(0, 1);
        dueFailure(y, 0, NULL, 0, 0);
    }

    private void goOfThoseThatAreThere() {
        sentences.test("Terms", GO, "itself, but not twice; LISTENER 199");
        ShowDesk x = roots(1);
        for (int i = 0; i < 200; i++) x.listen(0, BEFORE, 0, NO);
        x.step(0, 10, 199);
        x.step(0, 10, 0);
        x.step(0, 10, 0);
        x.send(0, 1);
        dueFailures(x, 1);
        dueFailure(x, 0, NULL, 0, 2);
        due("told(2)", x.told(2), 199);
        due("count(4)", x.count(4), 198);
        due("listener(199, 7)", x.listener(199, 7), 0);
    }

    private void closeNull() {
        sentences.test("Terms", CLOSE, "NULL: never was, also with all 30, is closed; the 30th is closed");
        int[] never = {LEAST, NO, -1, 1, 30, MOST};
        for (int n : never) {
            ShowDesk x = roots(1);
            x.scene();
            dueFault("SCENE " + n, x, NULL, 0, 1, 13, n);
            due("count(2)", x.count(2), 1);
        }
        ShowDesk full = roots(1);
        for (int i = 0; i < 30; i++) full.scene();
        dueFault("SCENE 30 of 30", full, NULL, 13, 30);
        due("count(2)", full.count(2), 30);
        ShowDesk y = roots(1);
        for (int i = 0; i < 30; i++) y.scene();
        y.listen(0, AFTER, 0, 29);
        dueFault("twice", y, NULL, 13, 29, 13, 29);
        due("count(2)", y.count(2), 29);
        due("count(4)", y.count(4), 1);
        due("told(2)", y.told(2), 1);
    }

    private void failureNumbers() {
        sentences.test("Terms", FAILURES, "each number");
        ShowDesk x = roots(1);
        int[] ops = {10, 16, 14, 17, 5, 17, 2, 3, 3};
        int[] numbers = {-1, 8, 0, -1, 0, 17, 0, 20, 29};
        int[] faults = {NULL, INDEX, CAST, SIZE, ZERO, ROOM, LATE, 20, 29};
        x.tray(0, 0, 1);
        for (int i = 0; i < ops.length; i++) add(x, 0, AT, -i, ops[i], numbers[i]);
        x.send(0, 1);
        for (int i = 0; i < ops.length; i++) due("failure(" + i + ", 0)", x.failure(i, 0), faults[i]);
        ShowDesk y = roots(1);
        add(y, 0, AT, 0, 11, 0, 11, 0);
        y.send(0, 1);
        due("the first is DEEP", y.failure(0, 0), 7);
        due("the last is MANY", y.failure(y.told(4) - 1, 0), 9);
    }
}
