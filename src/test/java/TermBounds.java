/** Boundary cases of the Terms: the answers, and part 1, what there is and how many of it. */
final class TermBounds extends Bounds {
    private static final String CALLS =
        "An object is used for at most 512 calls after it has been made; what later calls answer is free.";
    private static final String ANSWERS = "Answers: BAD -1 (a number is not as told; there is no such KIND, SCENE, "
        + "LISTENER, TRAY), STATE -2 (as told), FULL -3, NONE -4 (there is none), the first that fits; "
        + "what is refused changes nothing.";
    private static final String KINDS = "KINDS (40) are numbered as they come, each under another one, or none "
        + "(10 above it at most); each has a METER (a long, 0 at first).";
    private static final String SCENES = "SCENES (30) are numbered as they are opened, until they are closed.";
    private static final String TRAYS = "TRAYS 0 to 7 are rows of BYTES (lane 0), INTS (1), LONGS (2) with 0 to 16 CELLS, "
        + "or nothing (as at first).";
    private static final String LISTENERS = "LISTENERS (200) are numbered as they come, and are there until they GO.";
    private static final String LISTENER = "Each has a KIND (it listens to cues of that KIND and of those under it), "
        + "a PHASE (0 BEFORE, 1 AT, 2 AFTER), a RANK (an int), a SCENE or none, a FILTER (a low and a high VALUE; "
        + "all longs at first), may be for ONCE, and has a PROGRAM of 0 to 10 STEPS.";
    private static final String WITH_A_SCENE = "With a SCENE that is closed its LISTENERS GO.";

    TermBounds(Sentences sentences) {
        super(sentences);
    }

    @Override
    void run() {
        fiveHundredAndTwelveCalls();
        numbersOfAnswers();
        firstThatFits();
        refusedChangesNothing();
        fortyKinds();
        thirtyScenes();
        eightTrays();
        twoHundredListeners();
        listenerAtFirst();
        listenersGoWithTheirScene();
    }

    private void fiveHundredAndTwelveCalls() {
        sentences.test("What it is", CALLS, "the 512th call");
        ShowDesk x = roots(2);
        for (int i = 0; i < 200; i++) x.listen(0, i % 3, 0, NO);
        for (int l = 0; l < 150; l++) x.step(l, 0, 1);
        x.step(0, 12, 0);
        for (int i = 0; i < 158; i++) x.send(1, 1);
        due("the 512th", x.send(0, 1), 60);
        ShowDesk y = roots(1);
        for (int i = 0; i < 510; i++) y.send(0, 1);
        due("the 512th", y.meter(0), 510);
    }

    private void numbersOfAnswers() {
        sentences.test("Terms", ANSWERS, "BAD -1, STATE -2, FULL -3, NONE -4");
        due("BAD", ShowDesk.BAD, -1);
        due("STATE", ShowDesk.STATE, -2);
        due("FULL", ShowDesk.FULL, -3);
        due("NONE", ShowDesk.NONE, -4);
    }

    /** A desk on which nothing more can come; scene 0 is closed, listener 0 has gone with ten steps. */
    private static ShowDesk fullDesk() {
        ShowDesk x = line(11);
        for (int i = 11; i < 40; i++) x.kind(NO);
        for (int i = 0; i < 30; i++) x.scene();
        addIn(x, 0, 0, AT, 0, times(10, 0, 1));
        for (int i = 1; i < 200; i++) x.listen(0, i % 3, -i, NO);
        for (int i = 0; i < 9; i++) x.step(1, 0, i);
        x.step(1, 3, 21);
        x.filter(1, 0, 100);
        x.tray(0, 1, 2);
        x.lay(0, 1, 9);
        x.close(0);
        return x;
    }

    private void firstThatFits() {
        sentences.test("Terms", ANSWERS, "the first that fits");
        ShowDesk x = fullDesk();
        due("BAD ahead of FULL: kind(40)", x.kind(40), BAD);
        due("STATE ahead of FULL: kind(10)", x.kind(10), STATE);
        due("FULL: kind(9)", x.kind(9), FULL);
        due("BAD ahead of STATE, FULL: listen(40, 0, 0, 0)", x.listen(40, 0, 0, 0), BAD);
        due("BAD ahead of STATE, FULL: listen(0, 3, 0, 0)", x.listen(0, 3, 0, 0), BAD);
        due("BAD ahead of FULL: listen(0, 0, 0, 30)", x.listen(0, 0, 0, 30), BAD);
        due("STATE ahead of FULL: listen(0, 0, 0, 0)", x.listen(0, 0, 0, 0), STATE);
        due("FULL: listen(0, 0, 0, 1)", x.listen(0, 0, 0, 1), FULL);
        due("BAD ahead of STATE: filter(0, 1, 0)", x.filter(0, 1, 0), BAD);
        due("STATE: filter(0, 0, 0)", x.filter(0, 0, 0), STATE);
        due("BAD ahead of STATE, FULL: step(0, 18, 0)", x.step(0, 18, 0), BAD);
        due("BAD ahead of STATE, FULL: step(0, 3, 19)", x.step(0, 3, 19), BAD);
        due("STATE ahead of FULL: step(0, 0, 0)", x.step(0, 0, 0), STATE);
        due("BAD ahead of FULL: step(1, 3, 30)", x.step(1, 3, 30), BAD);
        due("FULL: step(1, 0, 0)", x.step(1, 0, 0), FULL);
        due("BAD ahead of -14: tray(8, 0, -1)", x.tray(8, 0, -1), BAD);
        due("BAD ahead of -14: tray(0, 3, -1)", x.tray(0, 3, -1), BAD);
        due("BAD ahead of -11, -12: lay(8, -1, 0)", x.lay(8, -1, 0), BAD);
        due("-11 ahead of -12: lay(1, -1, 0)", x.lay(1, -1, 0), -11);
        due("BAD ahead of NONE: turn(40, 0, -1)", x.turn(40, 0, -1), BAD);
        due("BAD ahead of NONE: turn(0, 3, 200)", x.turn(0, 3, 200), BAD);
    }

    private static void makeRefusedCalls(ShowDesk x) {
        int[] wrong = {LEAST, -1, 200, MOST};
        for (int n : wrong) {
            x.kind(n);
            x.close(n);
            x.listen(n, 0, 0, NO);
            x.listen(0, n, 0, NO);
            x.filter(n, 0, 1);
            x.once(n, true);
            x.step(n, 0, 1);
            x.step(2, n, 1);
            x.step(2, 3, n);
            x.leave(n);
            x.tray(n, 0, 1);
            x.tray(0, n, 1);
            x.tray(0, 1, n);
            x.lay(n, 0, 1);
            x.lay(0, n, 1);
            x.send(n, 1);
            x.back(n);
        }
        x.kind(10);
        x.kind(9);
        x.scene();
        x.close(0);
        x.listen(0, 0, 0, 0);
        x.listen(0, 0, 0, NO);
        x.filter(0, 0, 1);
        x.filter(1, 1, 0);
        x.once(0, true);
        x.step(0, 0, 1);
        x.step(1, 0, 1);
        x.leave(0);
        x.tray(0, 1, 17);
        x.lay(1, 0, 1);
    }

    private void refusedChangesNothing() {
        sentences.test("Terms", ANSWERS, "what is refused changes nothing");
        ShowDesk x = fullDesk();
        ShowDesk untouched = fullDesk();
        x.send(0, 5);
        untouched.send(0, 5);
        makeRefusedCalls(x);
        dueAlike(x, untouched);
        x.send(0, 6);
        untouched.send(0, 6);
        dueAlike(x, untouched);
    }

    private void dueAlike(ShowDesk x, ShowDesk y) {
        for (int what = 0; what <= 5; what++) due("count(" + what + ")", x.count(what), y.count(what));
        for (int what = 0; what <= 7; what++) due("told(" + what + ")", x.told(what), y.told(what));
        for (int what = 0; what <= 8; what++) {
            for (int l = 0; l < 3; l++) due("listener(" + l + ", " + what + ")", x.listener(l, what), y.listener(l, what));
        }
        due("value()", x.value(), y.value());
        due("meter(0)", x.meter(0), y.meter(0));
        due("failure(0, 0)", x.failure(0, 0), y.failure(0, 0));
        due("turn(0, 1, 0)", x.turn(0, 1, 0), y.turn(0, 1, 0));
        for (int t = 0; t < 8; t++) due("cells(" + t + ")", x.cells(t), y.cells(t));
        due("cell(0, 0)", x.cell(0, 0), y.cell(0, 0));
        due("cell(0, 1)", x.cell(0, 1), y.cell(0, 1));
    }

    private void fortyKinds() {
        sentences.test("Terms", KINDS, "40, with 10 above it at most, each with a METER of its own");
        ShowDesk x = line(11);
        due("kind(10), with 11 above it", x.kind(10), STATE);
        for (int i = 11; i < 40; i++) due("kind(0)", x.kind(0), i);
        due("kind(0), the 41st", x.kind(0), FULL);
        for (int k = 0; k < 40; k++) due("meter(" + k + ") at first", x.meter(k), 0);
        for (int k = 0; k < 40; k++) x.send(k, 1L << k);
        for (int k = 0; k < 40; k++) due("meter(" + k + ")", x.meter(k), 1L << k);
    }

    private void thirtyScenes() {
        sentences.test("Terms", SCENES, "30 in all, also when those ahead are closed");
        ShowDesk x = roots(1);
        for (int i = 0; i < 30; i++) {
            due("scene()", x.scene(), i);
            due("listen in it", x.listen(0, AT, 0, i), i);
            due("close(" + i + ")", x.close(i), 1);
            due("listen in it then", x.listen(0, AT, 0, i), STATE);
        }
        due("the 31st", x.scene(), FULL);
        due("count(2)", x.count(2), 0);
    }

    private void eightTrays() {
        sentences.test("Terms", TRAYS, "0 and 7, lanes 0 and 2, 0 and 16 CELLS, nothing at first");
        ShowDesk x = new ShowDesk();
        for (int t = 0; t < 8; t++) due("cells(" + t + ") at first", x.cells(t), NO);
        due("tray(-1, 0, 1)", x.tray(-1, 0, 1), BAD);
        due("tray(8, 0, 1)", x.tray(8, 0, 1), BAD);
        due("tray(0, -1, 1)", x.tray(0, -1, 1), BAD);
        due("tray(0, 3, 1)", x.tray(0, 3, 1), BAD);
        due("tray(0, 0, 0)", x.tray(0, 0, 0), 0);
        due("tray(7, 2, 16)", x.tray(7, 2, 16), 16);
        due("tray(7, 2, 17)", x.tray(7, 2, 17), BAD);
        due("cells(0)", x.cells(0), 0);
        due("cells(7)", x.cells(7), 16);
        for (int t = 1; t < 7; t++) due("cells(" + t + ")", x.cells(t), NO);
        long[] laid = {(byte) 0x8081, 0x8081, 0x8081};
        for (int lane = 0; lane <= 2; lane++) {
            x.tray(3, lane, 1);
            x.lay(3, 0, 0x8081);
            due("cell(3, 0) of lane " + lane, x.cell(3, 0), laid[lane]);
        }
    }

    private void twoHundredListeners() {
        sentences.test("Terms", LISTENERS, "200 in all, by calls and by STEPS, also when those ahead have GONE");
        ShowDesk x = roots(1);
        for (int i = 0; i < 198; i++) {
            due("listen", x.listen(0, BEFORE, 0, NO), i);
            if (i > 0) x.leave(i);
        }
        x.step(0, 9, 5);
        x.send(0, 1);
        due("the 199th came by a STEP", x.count(3), 199);
        due("the 200th", x.listen(0, BEFORE, 0, NO), 199);
        due("the 201st", x.listen(0, BEFORE, 0, NO), FULL);
        x.send(0, 1);
        due("the 201st by a STEP", x.failure(0, 0), ROOM);
        due("count(3)", x.count(3), 200);
        due("count(4)", x.count(4), 3);
        due("listener(1, 0)", x.listener(1, 0), 0);
        due("listener(199, 0)", x.listener(199, 0), 1);
    }

    private void listenerAtFirst() {
        sentences.test("Terms", LISTENER, "all longs at first, PHASES 0 to 2, 0 to 10 STEPS, its KIND and those under it");
        ShowDesk x = line(11);
        x.kind(NO);
        for (int phase = BEFORE; phase <= AFTER; phase++) x.listen(5, phase, 0, NO);
        for (long v : edgesOfLongs()) {
            x.send(5, v);
            due("told(2) with " + v, x.told(2), 3);
        }
        long[] told = {0, 0, 0, 0, 0, 3, 3, 3, 3, 3, 3, 0};
        for (int k = 0; k < told.length; k++) {
            x.send(k, 1);
            due("told(2) of KIND " + k, x.told(2), told[k]);
        }
        long[] first = {1, 5, BEFORE, 0, NO, 0, 0};
        for (int what = 0; what < first.length; what++) due("listener(0, " + what + ")", x.listener(0, what), first[what]);
        for (int i = 1; i <= 10; i++) due("step", x.step(0, 0, 1), i);
        due("step, the 11th", x.step(0, 0, 1), FULL);
    }

    private void listenersGoWithTheirScene() {
        sentences.test("Terms", WITH_A_SCENE, "the first and the 200th, by a call and by a STEP; no others");
        ShowDesk x = roots(1);
        x.scene();
        x.scene();
        for (int i = 0; i < 200; i++) x.listen(0, AT, 0, i == 0 || i == 199 ? 0 : i == 1 ? 1 : NO);
        due("close(0)", x.close(0), 2);
        due("listener(0, 0)", x.listener(0, 0), 0);
        due("listener(199, 0)", x.listener(199, 0), 0);
        due("count(4)", x.count(4), 198);
        x.step(1, 13, 1);
        x.send(0, 1);
        due("by a STEP of its own: listener(1, 0)", x.listener(1, 0), 0);
        due("count(4) then", x.count(4), 197);
        due("told(2)", x.told(2), 198);
    }
}
