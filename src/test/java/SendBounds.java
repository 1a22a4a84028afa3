/** Boundary cases of promises 14 send, 15 told, 16 value, 17 logged, 18 failure, 19 meter, 20 back. */
final class SendBounds extends Bounds {
    private static final String SEND = "A CUE is told, and all that come of it: how many CUES.";
    private static final String TOLD = "Of the latest send(): 0 whether its CUE was VETOED, 1 CUES, 2 LISTENERS TOLD, "
        + "3 VALUES to THE LOG, 4 FAILURES, 5 VETOES, 6 the most CUES that were being told at once, "
        + "7 the LISTENER that VETOED its CUE (NONE).";
    private static final String TOLD_BEFORE = "0 (7 NONE) before.";
    private static final String VALUE = "The VALUE of the CUE of the latest send() as it ended (VETOED: as it was then).";
    private static final String LOGGED = "VALUE i of THE LOG.";
    private static final String NONE_SUCH = "0 also: there is none such.";
    private static final String FAILURE = "Of FAILURE i of the latest send(): 0 what it is, 1 the LISTENER, 2 the STEP.";
    private static final String METER = "The METER of a KIND.";
    private static final String BACK = "The latest n ACTS (0 to 50) that can be are moved back, each METER that VALUE "
        + "less: how many were.";

    SendBounds(Sentences sentences) {
        super(sentences);
    }

    @Override
    void run() {
        sendCounts();
        sendBad();
        toldOfTheLatest();
        toldOfTheFirstCueAlone();
        toldByTheFirstAndTheLast();
        toldBefore();
        toldBad();
        valueEdges();
        valueVetoed();
        loggedEdges();
        loggedNone();
        failureEdges();
        failureBad();
        meterWraps();
        meterNone();
        backEdges();
        backMoreThanThereAre();
        backWraps();
        backBad();
    }

    private void sendCounts() {
        sentences.test("Promise 14: send", SEND, "one without LISTENERS, and 60");
        ShowDesk x = roots(40);
        due("send(39, 1)", x.send(39, 1), 1);
        add(x, 0, AT, 0, 12, 0);
        due("send(0, 1), which comes again for ever", x.send(0, 1), 60);
        due("send(39, 1) then", x.send(39, 1), 1);
    }

    private void sendBad() {
        sentences.test("Promise 14: send", "BAD.", "no such KIND: the latest send() stays as it is told");
        ShowDesk x = roots(2);
        add(x, 0, AT, 0, 8, 0, 3, 25);
        x.send(0, 7);
        dueEach("send(#, 9)", n -> x.send(n, 9), BAD, LEAST, NO, -1, 2, 40, MOST);
        long[] told = {0, 1, 1, 1, 1, 0, 1, NO};
        for (int what = 0; what <= 7; what++) due("told(" + what + ")", x.told(what), told[what]);
        due("value()", x.value(), 7);
        due("logged(0)", x.logged(0), 7);
        due("failure(0, 0)", x.failure(0, 0), 25);
        due("count(5)", x.count(5), 1);
    }

    private void toldOfTheLatest() {
        sentences.test("Promise 15: told", TOLD, "a busy send(), then one in which nothing comes to pass");
        ShowDesk x = roots(4);
        add(x, 0, BEFORE, 9, 11, 1, 8, 0, 11, 1);
        add(x, 0, BEFORE, 8, 3, 20);
        int vetoer = add(x, 0, BEFORE, 7, 12, 2, 2, 0);
        add(x, 1, AT, 0, 11, 2, 8, 0);
        add(x, 2, BEFORE, 0, 2, 0);
        x.send(0, 5);
        long[] busy = {1, 6, 8, 3, 1, 4, 3, vetoer};
        for (int what = 0; what <= 7; what++) due("told(" + what + ")", x.told(what), busy[what]);
        x.send(3, 5);
        long[] quiet = {0, 1, 0, 0, 0, 0, 1, NO};
        for (int what = 0; what <= 7; what++) due("told(" + what + ") then", x.told(what), quiet[what]);
    }

    private void toldOfTheFirstCueAlone() {
        sentences.test("Promise 15: told", TOLD, "0 and 7 are of its own CUE, not of those within and for LATER");
        ShowDesk x = roots(2);
        add(x, 0, BEFORE, 0, 11, 1, 12, 1);
        add(x, 1, BEFORE, 0, 2, 0);
        x.send(0, 1);
        due("told(0)", x.told(0), 0);
        due("told(7)", x.told(7), NO);
        due("told(5)", x.told(5), 2);
        int vetoer = add(x, 0, BEFORE, -1, 2, 0);
        x.leave(1);
        x.send(0, 1);
        due("told(0) of a VETOED one whose LATER one is not", x.told(0), 1);
        due("told(7)", x.told(7), vetoer);
    }

    private void toldByTheFirstAndTheLast() {
        sentences.test("Promise 15: told", TOLD, "VETOED by LISTENER 0, and by LISTENER 199");
        ShowDesk x = roots(1);
        for (int i = 0; i < 200; i++) add(x, 0, BEFORE, 0);
        x.step(0, 2, 0);
        x.step(199, 2, 0);
        x.send(0, 1);
        due("told(0)", x.told(0), 1);
        due("told(7)", x.told(7), 0);
        x.leave(0);
        x.send(0, 1);
        due("told(0) then", x.told(0), 1);
        due("told(7) then", x.told(7), 199);
        due("told(2)", x.told(2), 199);
    }

    private void toldBefore() {
        sentences.test("Promise 15: told", TOLD_BEFORE, "no send(), or refused ones alone");
        ShowDesk x = roots(1);
        add(x, 0, BEFORE, 0, 2, 0);
        dueEach("told(#)", x::told, 0, 0, 1, 2, 3, 4, 5, 6);
        due("told(7)", x.told(7), NO);
        x.send(1, 5);
        dueEach("told(#) after a refused one", x::told, 0, 0, 1, 2, 3, 4, 5, 6);
        due("told(7) after a refused one", x.told(7), NO);
    }

    private void toldBad() {
        sentences.test("Promise 15: told", "BAD.", "what is not 0 to 7");
        ShowDesk x = roots(1);
        dueEach("told(#)", x::told, BAD, LEAST, -1, 8, MOST);
        x.send(0, 1);
        dueEach("told(#) after a send()", x::told, BAD, LEAST, -1, 8, MOST);
    }

    private void valueEdges() {
        sentences.test("Promise 16: value", VALUE, "the edges of longs; those for LATER do not change it");
        ShowDesk x = roots(2);
        for (long v : edgesOfLongs()) {
            x.send(0, v);
            due("value() of " + v, x.value(), v);
        }
        add(x, 0, AFTER, 0, 0, 1, 12, 1);
        add(x, 1, BEFORE, 0, 1, 999);
        x.send(0, Long.MAX_VALUE);
        due("value() wraps", x.value(), Long.MIN_VALUE);
    }

    private void valueVetoed() {
        sentences.test("Promise 16: value", VALUE, "VETOED: as it was then");
        ShowDesk x = roots(2);
        add(x, 0, BEFORE, 9, 0, 10);
        add(x, 0, BEFORE, 8, 0, 100, 12, 1, 2, 0);
        add(x, 0, BEFORE, 7, 0, 1000);
        add(x, 0, AFTER, 0, 0, 1000);
        x.send(0, 1);
        due("told(0)", x.told(0), 1);
        due("value()", x.value(), 11);
    }

    private void loggedEdges() {
        sentences.test("Promise 17: logged", LOGGED, "the first, the 100th, the edges of longs");
        ShowDesk x = roots(1);
        addMany(x, 10, 0, AT, times(10, 8, 0));
        for (long v : edgesOfLongs()) {
            x.send(0, v);
            due("logged(0) of " + v, x.logged(0), v);
            due("logged(99) of " + v, x.logged(99), v);
        }
    }

    private void loggedNone() {
        sentences.test("Promise 17: logged", NONE_SUCH, "below 0, past the last, past the 100th, of an earlier send()");
        ShowDesk x = roots(1);
        dueEach("logged(#) at first", x::logged, 0, LEAST, -1, 0, 99, 100, MOST);
        addMany(x, 11, 0, AT, times(10, 8, 0));
        x.send(0, 5);
        due("told(3)", x.told(3), 110);
        dueEach("logged(#)", x::logged, 0, LEAST, -1, 100, 109, 110, MOST);
        for (int l = 1; l < 11; l++) x.leave(l);
        x.send(0, 6);
        due("logged(9)", x.logged(9), 6);
        dueEach("logged(#) then", x::logged, 0, 10, 99);
    }

    private void failureEdges() {
        sentences.test("Promise 18: failure", FAILURE, "the first and the 24th, the first STEP and the tenth, LISTENER 199");
        ShowDesk x = roots(1);
        add(x, 0, AT, MOST, 3, 20);
        for (int i = 1; i < 199; i++) add(x, 0, AT, 0, i < 23 ? new int[] {3, 21} : new int[0]);
        int last = add(x, 0, AT, LEAST, times(9, 0, 1));
        x.step(last, 3, 29);
        x.send(0, 1);
        dueFailures(x, 24);
        dueFailure(x, 0, 20, 0, 0);
        dueFailure(x, 23, 29, 199, 9);
    }

    private void failureBad() {
        sentences.test("Promise 18: failure", "BAD.", "no such FAILURE, what is not 0 to 2, of an earlier send()");
        ShowDesk x = roots(2);
        due("failure(0, 0) at first", x.failure(0, 0), BAD);
        addMany(x, 30, 0, AT, 3, 22);
        x.send(0, 1);
        dueEach("failure(#, 0)", n -> x.failure(n, 0), BAD, LEAST, -1, 24, 35, 36, MOST);
        dueEach("failure(0, #)", n -> x.failure(0, n), BAD, LEAST, -1, 3, MOST);
        dueEach("failure(23, #)", n -> x.failure(23, n), BAD, LEAST, -1, 3, MOST);
        x.send(1, 1);
        dueEach("failure(#, 0) then", n -> x.failure(n, 0), BAD, -1, 0, 23);
    }

    private void meterWraps() {
        sentences.test("Promise 19: meter", METER, "0 at first, wraps at both ends, the first and the 40th KIND");
        ShowDesk x = roots(40);
        dueEach("meter(#) at first", x::meter, 0, 0, 39);
        x.send(39, Long.MAX_VALUE);
        x.send(39, 1);
        due("meter(39)", x.meter(39), Long.MIN_VALUE);
        x.send(39, -1);
        due("meter(39) then", x.meter(39), Long.MAX_VALUE);
        due("meter(0)", x.meter(0), 0);
    }

    private void meterNone() {
        sentences.test("Promise 19: meter", NONE_SUCH, "no such KIND");
        ShowDesk x = roots(1);
        x.send(0, 5);
        dueEach("meter(#)", x::meter, 0, LEAST, NO, -1, 1, 39, 40, MOST);
        due("meter(0)", x.meter(0), 5);
    }

    private void backEdges() {
        sentences.test("Promise 20: back", BACK, "0 and 50 of 51");
        ShowDesk x = roots(2);
        x.send(1, 1000);
        for (int i = 0; i < 50; i++) x.send(i % 2, 1);
        due("back(0)", x.back(0), 0);
        due("meter(1)", x.meter(1), 1025);
        due("back(50)", x.back(50), 50);
        due("meter(0)", x.meter(0), 0);
        due("meter(1) then", x.meter(1), 1000);
        due("count(5)", x.count(5), 0);
        due("back(50) again", x.back(50), 0);
        due("meter(1) still", x.meter(1), 1000);
    }

    private void backMoreThanThereAre() {
        sentences.test("Promise 20: back", BACK, "more than there are, the latest first, none of a VETOED CUE");
        ShowDesk x = roots(3);
        due("back(1) at first", x.back(1), 0);
        add(x, 2, BEFORE, 0, 2, 0);
        x.send(0, 5);
        x.send(1, 70);
        x.send(2, 900);
        due("meter(2)", x.meter(2), 0);
        due("back(1)", x.back(1), 1);
        due("meter(1)", x.meter(1), 0);
        due("meter(0)", x.meter(0), 5);
        due("back(2), with one left", x.back(2), 1);
        due("meter(0) then", x.meter(0), 0);
    }

    private void backWraps() {
        sentences.test("Promise 20: back", BACK, "a METER wraps back too");
        ShowDesk x = roots(1);
        x.send(0, Long.MIN_VALUE);
        x.send(0, -1);
        due("meter(0)", x.meter(0), Long.MAX_VALUE);
        due("back(1)", x.back(1), 1);
        due("meter(0) then", x.meter(0), Long.MIN_VALUE);
        due("back(1) again", x.back(1), 1);
        due("meter(0) at last", x.meter(0), 0);
    }

    private void backBad() {
        sentences.test("Promise 20: back", "BAD.", "n is not 0 to 50");
        ShowDesk x = roots(1);
        x.send(0, 5);
        dueEach("back(#)", x::back, BAD, LEAST, -1, 51, MOST);
        due("meter(0)", x.meter(0), 5);
        due("count(5)", x.count(5), 1);
    }
}
