/** Boundary cases of parts 2 and 3 of the Terms: CUES within, CUES for LATER, and how many there may be. */
final class CueStepBounds extends Bounds {
    private static final int NOW = 11, LATER = 12;

    private static final String WITHIN = "11 a CUE of KIND n with v is told now, within: v becomes its VALUE as it ends "
        + "(of one that was VETOED: stays); NULL: no such KIND; DEEP: 12 CUES are being told; "
        + "MANY: 60 CUES were told in this send().";
    private static final String FOR_LATER = "12 a CUE of KIND n with v is told LATER: NULL; ROOM: 40 wait.";
    private static final String SENDING = "send() tells a CUE; then those for LATER, in the order in which they were sent, "
        + "each as it was sent (its KIND, VALUE), also those that come meanwhile, until none waits, or 60 CUES were told "
        + "(others are forgotten).";

    CueStepBounds(Sentences sentences) {
        super(sentences);
    }

    @Override
    void run() {
        withinVetoed();
        withinNull();
        withinDeep();
        withinMany();
        withinFirstThatFits();
        laterNull();
        laterRoom();
        laterRoomOnceOneIsTold();
        sendingInOrder();
        sendingSixty();
        sendingSixtyWithThoseWithin();
        sendingForgets();
    }

    private void withinVetoed() {
        sentences.test("Terms", WITHIN, "of one that was VETOED: stays, also what it was changed to ahead of the VETO");
        ShowDesk x = roots(2);
        add(x, 0, AT, 0, 0, 1, NOW, 1, 8, 0);
        add(x, 1, BEFORE, 9, 0, 10);
        int vetoer = add(x, 1, BEFORE, 8, 2, 0);
        due("send(0, 5)", x.send(0, 5), 2);
        due("logged(0)", x.logged(0), 6);
        dueFailures(x, 0);
        x.leave(vetoer);
        x.send(0, 5);
        due("logged(0) of one that was not", x.logged(0), 16);
    }

    private void dueNullForNoKind(int op) {
        int[] never = {LEAST, NO, -1, 1, 39, 40, MOST};
        for (int n : never) {
            ShowDesk x = roots(1);
            dueFault("KIND " + n, x, NULL, 0, 1, op, n);
            due("told(1)", x.told(1), 1);
        }
    }

    private void withinNull() {
        sentences.test("Terms", WITHIN, "NULL: no such KIND");
        dueNullForNoKind(NOW);
        ShowDesk x = roots(40);
        add(x, 0, AT, 0, NOW, 39);
        due("send(0, 1), the 40th within", x.send(0, 1), 2);
    }

    private void withinDeep() {
        sentences.test("Terms", WITHIN, "DEEP: the 12th is told, the 13th is not");
        ShowDesk x = roots(1);
        add(x, 0, AT, 0, 0, 1, NOW, 0);
        x.filter(0, 0, 10);
        due("send(0, 0), 12 at once", x.send(0, 0), 12);
        due("told(6)", x.told(6), 12);
        dueFailures(x, 0);
        due("value()", x.value(), 11);
        x.filter(0, 0, 11);
        due("send(0, 0), 13 at once", x.send(0, 0), 12);
        due("told(6) then", x.told(6), 12);
        dueFailures(x, 1);
        dueFailure(x, 0, DEEP, 0, 1);
        due("value() then", x.value(), 11);
        due("a CUE that has ended is not being told: send(0, 0) again", x.send(0, 0), 12);
    }

    private void withinMany() {
        sentences.test("Terms", WITHIN, "MANY: the 60th is told, the 61st is not");
        ShowDesk x = roots(2);
        addMany(x, 5, 0, AT, times(10, NOW, 1));
        int last = add(x, 0, AT, 0, times(9, NOW, 1));
        due("send(0, 1), 60", x.send(0, 1), 60);
        dueFailures(x, 0);
        due("told(6)", x.told(6), 2);
        x.step(last, NOW, 1);
        due("send(0, 1), 61", x.send(0, 1), 60);
        dueFailures(x, 1);
        dueFailure(x, 0, MANY, last, 9);
        due("meter(1)", x.meter(1), 2 * 59);
        due("the next send() is told anew", x.send(1, 1), 1);
    }

    private void withinFirstThatFits() {
        sentences.test("Terms", WITHIN, "the first that fits: NULL ahead of DEEP ahead of MANY");
        ShowDesk x = roots(3);
        addMany(x, 4, 0, AT, times(10, NOW, 1));
        add(x, 0, AT, 0, times(8, NOW, 1));
        add(x, 0, AT, 0, NOW, 2, NOW, 1);
        int deep = add(x, 2, AT, 0, NOW, 2);
        int unknown = add(x, 2, AFTER, 0, NOW, 3);
        due("send(0, 1)", x.send(0, 1), 60);
        dueFailure(x, 0, DEEP, deep, 0);
        dueFailure(x, 1, NULL, unknown, 0);
        dueFailure(x, x.told(4) - 1, MANY, 5, 1);
        due("told(6)", x.told(6), 12);
    }

    private void laterNull() {
        sentences.test("Terms", FOR_LATER, "NULL: no such KIND, also when 40 wait");
        dueNullForNoKind(LATER);
        ShowDesk x = roots(2);
        addMany(x, 4, 0, AT, times(10, LATER, 1));
        dueFault("when 40 wait", x, NULL, LATER, 2);
    }

    private void laterRoom() {
        sentences.test("Terms", FOR_LATER, "ROOM: the 40th waits, the 41st does not");
        ShowDesk x = roots(2);
        addMany(x, 3, 0, AT, times(10, LATER, 1));
        int last = add(x, 0, AT, 0, times(9, LATER, 1));
        due("send(0, 1), 39 wait", x.send(0, 1), 40);
        dueFailures(x, 0);
        x.step(last, LATER, 1);
        due("send(0, 1), 40 wait", x.send(0, 1), 41);
        dueFailures(x, 0);
        int more = add(x, 0, AT, -1, 0, 1, LATER, 1);
        due("send(0, 1), 41 would wait", x.send(0, 1), 41);
        dueFailures(x, 1);
        dueFailure(x, 0, ROOM, more, 1);
        due("value()", x.value(), 1);
        due("meter(1)", x.meter(1), 39 + 40 + 40);
    }

    private void laterRoomOnceOneIsTold() {
        sentences.test("Terms", FOR_LATER, "ROOM: one that is being told waits no more");
        ShowDesk x = roots(3);
        addMany(x, 4, 0, AT, times(10, LATER, 1));
        int again = add(x, 1, BEFORE, 0, 8, 0, LATER, 2, LATER, 2);
        x.once(again, true);
        due("send(0, 1)", x.send(0, 1), 42);
        due("told(3)", x.told(3), 1);
        dueFailures(x, 1);
        dueFailure(x, 0, ROOM, again, 2);
        due("meter(2)", x.meter(2), 1);
    }

    private void sendingInOrder() {
        sentences.test("Terms", SENDING, "each as it was sent, in order, after all of the first CUE; then those that came meanwhile");
        ShowDesk x = roots(4);
        add(x, 0, BEFORE, 0, LATER, 3, 0, 1, LATER, 1, 0, 1, LATER, 2, NOW, 2);
        add(x, 0, AFTER, 0, 8, 0);
        add(x, 1, AT, 0, 8, 0, 0, 50, LATER, 3, 1, 1000);
        add(x, 2, AT, 0, 8, 0);
        add(x, 3, AT, 0, 8, 0);
        due("send(0, 5)", x.send(0, 5), 6);
        long[] log = {7, 7, 5, 6, 7, 56};
        for (int i = 0; i < log.length; i++) due("logged(" + i + ")", x.logged(i), log[i]);
        due("told(3)", x.told(3), log.length);
        due("value()", x.value(), 7);
    }

    private void sendingSixty() {
        sentences.test("Terms", SENDING, "60 CUES, and none waits; 60, and one waits");
        ShowDesk x = roots(1);
        add(x, 0, AT, 0, 8, 0, 0, 1, LATER, 0);
        x.filter(0, 0, 57);
        due("send(0, 0), 59", x.send(0, 0), 59);
        x.filter(0, 0, 58);
        due("send(0, 0), 60", x.send(0, 0), 60);
        x.filter(0, 0, 59);
        due("send(0, 0), 61 would be", x.send(0, 0), 60);
        due("logged(59)", x.logged(59), 59);
        dueFailures(x, 0);
        due("told(6)", x.told(6), 1);
    }

    private void sendingSixtyWithThoseWithin() {
        sentences.test("Terms", SENDING, "60 CUES, of which some are told within");
        ShowDesk x = roots(3);
        addMany(x, 4, 0, AT, times(10, LATER, 1));
        add(x, 1, AT, 0, NOW, 2);
        due("send(0, 1)", x.send(0, 1), 60);
        due("meter(1)", x.meter(1), 30);
        due("meter(2)", x.meter(2), 29);
        dueFailures(x, 1);
        dueFailure(x, 0, MANY, 4, 0);
        ShowDesk y = roots(3);
        addMany(y, 4, 0, AT, times(10, LATER, 1));
        add(y, 0, AT, 0, NOW, 2);
        add(y, 1, AT, 0, NOW, 2);
        due("send(0, 1), where none fails", y.send(0, 1), 60);
        due("meter(1) then", y.meter(1), 29);
        due("meter(2) then", y.meter(2), 30);
        dueFailures(y, 0);
    }

    private void sendingForgets() {
        sentences.test("Terms", SENDING, "those that wait after 60 are forgotten, and there is room for 40 again");
        ShowDesk x = roots(3);
        addMany(x, 4, 0, AT, times(10, LATER, 1));
        int again = add(x, 1, AT, 0, LATER, 1);
        due("send(0, 1)", x.send(0, 1), 60);
        dueFailures(x, 0);
        due("send(2, 1)", x.send(2, 1), 1);
        due("meter(1)", x.meter(1), 59);
        x.leave(again);
        due("send(0, 1), 40 wait", x.send(0, 1), 41);
        dueFailures(x, 0);
    }
}
