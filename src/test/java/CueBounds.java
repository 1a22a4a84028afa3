/** Boundary cases of parts 2 and 3 of the Terms: how a CUE is told, FAILURES, THE LOG and the ACTS that are kept. */
final class CueBounds extends Bounds {
    private static final String CUE = "A CUE has a KIND and a VALUE (a long).";
    private static final String PHASES = "It is told in PHASES: BEFORE; then its ACT: the METER of its KIND becomes VALUE "
        + "more (wrapping); AT; AFTER.";
    private static final String TURNS = "In each PHASE the LISTENERS of that PHASE that are there as it begins, and listen "
        + "to its KIND, come in turn: by RANKS, the greatest first; of like ones those of the KIND that is nearest "
        + "(its own, the one above it, ..) first, then by numbers.";
    private static final String PASSED_BY = "In its turn a LISTENER that has GONE, or whose FILTER has not the CUE's VALUE "
        + "as it is then, is passed by.";
    private static final String IS_TOLD = "Else it is TOLD: one for ONCE GOES first; its PROGRAM is done with the VALUE; "
        + "if it ends well, the CUE's VALUE becomes what the PROGRAM made of it.";
    private static final String VETO = "A VETO (BEFORE) ends the CUE: no ACT, no other LISTENERS.";
    private static final String FAILING = "With a FAILURE the PROGRAM ends, the CUE's VALUE stays what it was ahead of it "
        + "(all else that it did stays done), and the next LISTENER has its turn.";
    private static final String AS_IT_WAS = "(A PROGRAM is that of its LISTENER as it was when it was TOLD.)";
    private static final String HUSH = "When 24 FAILURES have come in a send(), all LISTENERS are passed by from then on.";
    private static final String THE_LOG = "THE LOG has 100 VALUES of the latest send() (later ones are counted alone).";
    private static final String ACTS = "An ACT can be moved back by back(): 50 at most are kept, of all send()s, "
        + "the latest ones.";

    CueBounds(Sentences sentences) {
        super(sentences);
    }

    @Override
    void run() {
        valuesAreLongs();
        actBetweenPhases();
        actWraps();
        turnsByRanksAtTheEdges();
        turnsByNearness();
        turnsOfThoseThatComeMeanwhile();
        passedByGone();
        passedByFilter();
        onceGoesFirst();
        vetoEndsTheCue();
        failureLeavesTheValue();
        programAsItWas();
        hushAtTwentyFour();
        hushInACueWithin();
        hushEndsWithTheSend();
        logOfAHundred();
        logOfTheLatest();
        actsOfFifty();
        actsOfAllSends();
    }

    private void valuesAreLongs() {
        sentences.test("Terms", CUE, "the edges of longs, the first and the 40th KIND");
        for (long v : edgesOfLongs()) {
            ShowDesk x = roots(40);
            x.send(0, v);
            x.send(39, v);
            due("meter(0)", x.meter(0), v);
            due("meter(39)", x.meter(39), v);
        }
    }

    private void actBetweenPhases() {
        sentences.test("Terms", PHASES, "the ACT has what BEFORE made, and is there AT; no METER but its own KIND's");
        ShowDesk x = line(2);
        add(x, 0, AFTER, 9, 0, 1000, 8, 0);
        add(x, 0, AT, 9, 0, 100, 8, 0);
        add(x, 0, BEFORE, 9, 0, 10, 8, 0);
        x.send(1, 1);
        due("meter(1)", x.meter(1), 11);
        due("meter(0)", x.meter(0), 0);
        long[] log = {11, 111, 1111};
        for (int i = 0; i < log.length; i++) due("logged(" + i + ")", x.logged(i), log[i]);
        ShowDesk y = roots(2);
        add(y, 0, BEFORE, 0, 11, 1);
        add(y, 0, AT, 0, 11, 1);
        y.send(0, 5);
        y.back(1);
        due("the ACT of a CUE within AT is the latest: meter(1)", y.meter(1), 5);
        y.back(1);
        due("then its own: meter(0)", y.meter(0), 0);
        due("then that within BEFORE: count(5)", y.count(5), 1);
    }

    private void actWraps() {
        sentences.test("Terms", PHASES, "wrapping at both ends");
        ShowDesk x = roots(2);
        x.send(0, Long.MAX_VALUE);
        x.send(0, Long.MAX_VALUE);
        due("twice the greatest", x.meter(0), -2);
        x.send(1, Long.MIN_VALUE);
        x.send(1, Long.MIN_VALUE);
        due("twice the least", x.meter(1), 0);
    }

    private void turnsByRanksAtTheEdges() {
        sentences.test("Terms", TURNS, "ranks at the edges of ints, like ones by numbers");
        ShowDesk x = roots(1);
        int[] ranks = {0, LEAST, MOST, -1, 1, LEAST, MOST};
        for (int i = 0; i < ranks.length; i++) add(x, 0, AT, ranks[i], 1, i, 8, 0);
        x.send(0, 0);
        long[] log = {2, 6, 4, 0, 3, 1, 5};
        for (int i = 0; i < log.length; i++) due("logged(" + i + ")", x.logged(i), log[i]);
    }

    private void turnsByNearness() {
        sentences.test("Terms", TURNS, "nearest first, up to 10 above; not those below or beside");
        ShowDesk x = line(11);
        x.kind(8);
        for (int k = 0; k <= 11; k++) add(x, k, AT, 7, 1, k, 8, 0);
        add(x, 10, AT, 7, 1, 99, 8, 0);
        add(x, 0, AT, 8, 1, 98, 8, 0);
        x.send(10, 0);
        long[] log = {98, 10, 99, 9, 8, 7, 6, 5, 4, 3, 2, 1, 0};
        due("told(3)", x.told(3), log.length);
        for (int i = 0; i < log.length; i++) due("logged(" + i + ")", x.logged(i), log[i]);
        x.send(0, 0);
        due("told(2) of the topmost", x.told(2), 2);
    }

    private void turnsOfThoseThatComeMeanwhile() {
        sentences.test("Terms", TURNS, "one that comes in a PHASE has no turn in it, but in the next, and in a CUE within");
        ShowDesk x = roots(2);
        add(x, 0, AT, 0, 9, 1);
        add(x, 0, AT, -1, 8, 0);
        x.send(0, 0);
        due("told(3)", x.told(3), 1);
        ShowDesk y = roots(2);
        add(y, 0, AT, 0, 9, 1);
        add(y, 0, AFTER, 0, 8, 0);
        y.send(0, 0);
        due("told(3), for the next PHASE", y.told(3), 2);
        ShowDesk z = roots(2);
        int asker = add(z, 0, AT, 0, 9, 1, 11, 0);
        add(z, 0, AT, -1, 8, 0);
        z.once(asker, true);
        z.send(0, 0);
        due("told(3), two in the CUE within and one in the outer", z.told(3), 3);
    }

    private void passedByGone() {
        sentences.test("Terms", PASSED_BY, "one that GOES ahead of its turn: taken away, with its SCENE, in a CUE within");
        ShowDesk x = roots(2);
        x.scene();
        add(x, 0, AT, 9, 10, 1, 13, 0, 11, 1);
        int away = add(x, 0, AT, 8, 8, 0);
        int closed = addIn(x, 0, 0, AT, 7, 8, 0);
        int once = add(x, 1, AT, 0, 10, 4);
        int within = add(x, 0, AT, 6, 8, 0);
        x.send(0, 0);
        due("told(3)", x.told(3), 0);
        due("told(2)", x.told(2), 2);
        dueFailures(x, 0);
        due("listener(once, 7)", x.listener(once, 7), 1);
        dueEach("listener(#, 7)", n -> x.listener(n, 7), 0, away, closed, within);
    }

    private void passedByFilter() {
        sentences.test("Terms", PASSED_BY, "low and high, the VALUE as it is then; it does not GO for ONCE");
        ShowDesk x = roots(1);
        add(x, 0, BEFORE, 9, 0, 1);
        int[] lows = {1, 2, 2, 3};
        int[] highs = {1, 2, 9, 9};
        long[] told = {0, 1, 1, 0};
        for (int i = 0; i < lows.length; i++) {
            int l = add(x, 0, BEFORE, 8);
            x.filter(l, lows[i], highs[i]);
            x.once(l, true);
        }
        x.send(0, 1);
        for (int i = 0; i < told.length; i++) {
            due("listener(" + (i + 1) + ", 7)", x.listener(i + 1, 7), told[i]);
            due("listener(" + (i + 1) + ", 0)", x.listener(i + 1, 0), 1 - told[i]);
        }
    }

    private void onceGoesFirst() {
        sentences.test("Terms", IS_TOLD, "one for ONCE is not told in a CUE within; an empty PROGRAM; one that fails GOES too");
        ShowDesk x = roots(1);
        int l = add(x, 0, AT, 9, 0, 1, 11, 0, 0, 10);
        int empty = add(x, 0, AFTER, 0);
        int failing = add(x, 0, AFTER, -1, 3, 20);
        x.once(l, true);
        x.once(failing, true);
        due("send(0, 0)", x.send(0, 0), 2);
        due("value()", x.value(), 11);
        due("listener(l, 7)", x.listener(l, 7), 1);
        due("listener(empty, 7)", x.listener(empty, 7), 2);
        due("listener(failing, 7)", x.listener(failing, 7), 1);
        due("listener(failing, 0)", x.listener(failing, 0), 0);
        due("count(4)", x.count(4), 1);
    }

    private void vetoEndsTheCue() {
        sentences.test("Terms", VETO, "no ACT, none after it in any PHASE, no STEP after it; what was done stays done");
        ShowDesk x = roots(2);
        add(x, 0, BEFORE, 9, 8, 0, 12, 1, 2, 0, 8, 0);
        for (int phase = BEFORE; phase <= AFTER; phase++) add(x, 0, phase, 0, 8, 0);
        due("send(0, 5)", x.send(0, 5), 2);
        due("told(2)", x.told(2), 1);
        due("told(3)", x.told(3), 1);
        due("meter(0)", x.meter(0), 0);
        due("meter(1), for LATER", x.meter(1), 5);
        due("count(5)", x.count(5), 1);
        dueFailures(x, 0);
    }

    private void failureLeavesTheValue() {
        sentences.test("Terms", FAILING, "the first STEP, the tenth; what it did stays done; the next has its turn");
        ShowDesk x = roots(2);
        x.tray(0, 1, 1);
        add(x, 0, BEFORE, 9, 3, 20, 0, 1);
        add(x, 0, BEFORE, 8, 0, 7, 8, 0, 15, 0, 16, 3, 9, 0, 10, 0, 11, 1, 12, 1, 0, 1, 3, 29);
        add(x, 0, BEFORE, 7, 0, 100);
        due("send(0, 5)", x.send(0, 5), 3);
        due("value()", x.value(), 105);
        due("meter(0)", x.meter(0), 105);
        due("logged(0)", x.logged(0), 12);
        due("cell(0, 0)", x.cell(0, 0), 12);
        due("listener(1, 8)", x.listener(1, 8), 3);
        due("count(3)", x.count(3), 4);
        due("listener(0, 0)", x.listener(0, 0), 0);
        due("meter(1)", x.meter(1), 24);
        dueFailures(x, 2);
        dueFailure(x, 0, 20, 0, 0);
        dueFailure(x, 1, 29, 1, 9);
    }

    private void programAsItWas() {
        sentences.test("Terms", AS_IT_WAS, "of one that takes itself away, and of one that is told again within");
        ShowDesk x = roots(1);
        add(x, 0, AT, 0, 10, 0, 0, 1, 9, 0, 0, 1);
        x.send(0, 0);
        due("value()", x.value(), 2);
        due("listener(1, 5)", x.listener(1, 5), 4);
        due("step(0, 0, 1)", x.step(0, 0, 1), STATE);
        due("step(1, 7, 0)", x.step(1, 7, 0), 5);
        due("listener(0, 5)", x.listener(0, 5), 4);
        ShowDesk y = roots(1);
        add(y, 0, AT, 0, 0, 1, 11, 0, 8, 0);
        y.filter(0, 0, 2);
        y.send(0, 0);
        due("each goes on at its own STEP: told(3)", y.told(3), 3);
        due("value() then", y.value(), 3);
    }

    private void hushAtTwentyFour() {
        sentences.test("Terms", HUSH, "after 23 the next is told, after 24 none in any PHASE or CUE, but ACTS and CUES go on");
        ShowDesk x = roots(2);
        add(x, 0, BEFORE, 9, 12, 1);
        addMany(x, 23, 0, BEFORE, 3, 20);
        int next = add(x, 0, BEFORE, -1, 0, 1);
        int after = add(x, 0, AFTER, 0, 0, 10);
        int later = add(x, 1, AT, 0, 8, 0);
        due("send(0, 5), 23 fail", x.send(0, 5), 2);
        dueFailures(x, 23);
        due("value()", x.value(), 16);
        due("told(3)", x.told(3), 1);
        add(x, 0, BEFORE, 0, 3, 29);
        due("send(0, 5), 24 fail", x.send(0, 5), 2);
        dueFailures(x, 24);
        dueFailure(x, 23, 29, 27, 0);
        due("value() then", x.value(), 5);
        due("told(2)", x.told(2), 25);
        due("told(3) then", x.told(3), 0);
        due("meter(0)", x.meter(0), 6 + 5);
        due("meter(1)", x.meter(1), 5 + 5);
        dueEach("listener(#, 7)", n -> x.listener(n, 7), 1, next, after, later);
    }

    private void hushInACueWithin() {
        sentences.test("Terms", HUSH, "PROGRAMS that are being done go on, and can fail: 35 at most");
        ShowDesk x = roots(1);
        add(x, 0, AT, 0, 11, 0, 8, 0, 3, 27);
        addMany(x, 24, 0, AFTER, 3, 20);
        due("send(0, 0)", x.send(0, 0), 12);
        dueFailures(x, 24 + 11);
        dueFailure(x, 0, DEEP, 0, 0);
        dueFailure(x, 23, 20, 23, 0);
        dueFailure(x, 24, 27, 0, 2);
        dueFailure(x, 34, 27, 0, 2);
        due("failure(35, 0)", x.failure(35, 0), BAD);
        due("told(2)", x.told(2), 12 + 23);
        due("told(3)", x.told(3), 11);
    }

    private void hushEndsWithTheSend() {
        sentences.test("Terms", HUSH, "in a send(): the next one is told anew");
        ShowDesk x = roots(2);
        addMany(x, 25, 0, AT, 3, 20);
        add(x, 1, AT, 0, 0, 1);
        x.send(0, 5);
        dueFailures(x, 24);
        x.send(1, 5);
        dueFailures(x, 0);
        due("value()", x.value(), 6);
        x.send(0, 5);
        dueFailures(x, 24);
    }

    private void logOfAHundred() {
        sentences.test("Terms", THE_LOG, "the 100th is there, the 101st is counted alone");
        ShowDesk x = roots(1);
        addMany(x, 20, 0, AT, 8, 0, 0, 1, 8, 0, 0, 1, 8, 0, 0, 1, 8, 0, 0, 1, 8, 0, 0, 1);
        x.send(0, 1);
        due("told(3)", x.told(3), 100);
        due("logged(0)", x.logged(0), 1);
        due("logged(99)", x.logged(99), 100);
        add(x, 0, AFTER, 0, 8, 0);
        x.send(0, 1);
        due("told(3) then", x.told(3), 101);
        due("logged(0) then", x.logged(0), 1);
        due("logged(99) then", x.logged(99), 100);
        due("logged(100)", x.logged(100), 0);
    }

    private void logOfTheLatest() {
        sentences.test("Terms", THE_LOG, "of the latest send(): shorter, empty");
        ShowDesk x = roots(2);
        addMany(x, 11, 0, AT, times(10, 8, 0));
        add(x, 1, AT, 0, 8, 0);
        x.send(0, 5);
        x.send(1, 6);
        due("told(3)", x.told(3), 1);
        due("logged(0)", x.logged(0), 6);
        dueEach("logged(#)", x::logged, 0, 1, 99);
        x.leave(11);
        x.send(1, 7);
        due("told(3) then", x.told(3), 0);
        due("logged(0) then", x.logged(0), 0);
    }

    private void actsOfFifty() {
        sentences.test("Terms", ACTS, "50 are kept; of 51 the oldest is not, and does not come again");
        ShowDesk x = roots(2);
        x.send(1, 1);
        for (int i = 0; i < 49; i++) x.send(0, 1);
        due("count(5) of 50", x.count(5), 50);
        x.send(0, 1);
        due("count(5) of 51", x.count(5), 50);
        due("back(49)", x.back(49), 49);
        due("back(2), with one left", x.back(2), 1);
        due("meter(0)", x.meter(0), 0);
        due("meter(1)", x.meter(1), 1);
        due("count(5)", x.count(5), 0);
        for (int i = 0; i < 50; i++) x.send(0, 1L << i);
        due("count(5) of 50 more", x.count(5), 50);
        due("back(50)", x.back(50), 50);
        due("meter(0) then", x.meter(0), 0);
    }

    private void actsOfAllSends() {
        sentences.test("Terms", ACTS, "of all send()s: 60 of one, then one more; those that are moved back make room");
        ShowDesk x = roots(2);
        add(x, 0, AT, 0, 12, 0);
        x.send(0, 1);
        due("count(5)", x.count(5), 50);
        x.send(1, 7);
        due("count(5) then", x.count(5), 50);
        due("back(1)", x.back(1), 1);
        due("meter(1)", x.meter(1), 0);
        due("count(5) of those that are left", x.count(5), 49);
        x.send(1, 7);
        due("count(5) with a new one", x.count(5), 50);
        due("back(50)", x.back(50), 50);
        due("meter(0)", x.meter(0), 11);
        due("meter(1) then", x.meter(1), 0);
    }
}
