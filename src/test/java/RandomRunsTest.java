import java.util.Random;

/** Runs of 512 random calls (always the same ones), held against PlainDesk: every promise, mixed. */
public final class RandomRunsTest {
    private static final int RUNS = 8000;
    // What later calls answer is free, so none are asked.
    private static final int CALLS = 512;
    private static final int LAST_QUESTIONS = 120;
    private static final int[] EDGES = {Integer.MIN_VALUE, Integer.MAX_VALUE, -5, -4, -3, -2, -1, 10, 16, 17, 29, 30, 40,
        50, 51, 60, 99, 100, 200};

    private final Check check;
    private final Random random;
    private final ShowDesk desk = new ShowDesk();
    private final PlainDesk plain = new PlainDesk();
    private final int run;
    private final int kinds;
    private final int listenShare;
    private final boolean nests;
    private int calls;

    private RandomRunsTest(Check check, int run) {
        this.check = check;
        this.run = run;
        this.random = new Random(run);
        this.kinds = 1 + random.nextInt(run % 5 == 0 ? 40 : 8);
        this.listenShare = 5 + random.nextInt(40);
        this.nests = run % 2 == 0;
    }

    public static void main(String[] args) {
        Check check = new Check("RandomRunsTest");
        for (int run = 0; run < RUNS; run++) new RandomRunsTest(check, run).go();
        check.end();
    }

    private void go() {
        while (calls < kinds) makeKind();
        for (int i = 0; run % 7 == 0 && i < 28; i++) due("scene", 0, 0, 0);
        while (calls < CALLS - LAST_QUESTIONS) change();
        send();
        while (calls < CALLS) ask();
    }

    private void change() {
        int choice = random.nextInt(100);
        if (choice < 2) makeKind();
        else if (choice < listenShare) makeListener();
        else if (choice < 60) addStep();
        else if (choice < 67) send();
        else if (choice < 80) changeListener();
        else if (choice < 88) changeTray();
        else if (choice < 95) changeScene();
        else due("back", argument(12), 0, 0);
    }

    private boolean isAtTheEnd() {
        calls++;
        return calls > CALLS;
    }

    private int argument(int most) {
        if (random.nextInt(25) == 0) return EDGES[random.nextInt(EDGES.length)];
        return random.nextInt(most + 1);
    }

    private long value() {
        int choice = random.nextInt(20);
        if (choice == 0) return random.nextLong();
        if (choice == 1) return Long.MIN_VALUE;
        if (choice == 2) return Long.MAX_VALUE;
        return random.nextInt(41) - 20;
    }

    private void due(String call, int a, int b, int c) {
        if (isAtTheEnd()) return;
        long got;
        long want;
        switch (call) {
            case "kind": got = desk.kind(a); want = plain.kind(a); break;
            case "scene": got = desk.scene(); want = plain.scene(); break;
            case "close": got = desk.close(a); want = plain.close(a); break;
            case "step": got = desk.step(a, b, c); want = plain.step(a, b, c); break;
            case "once": got = desk.once(a, b == 1); want = plain.once(a, b == 1); break;
            case "leave": got = desk.leave(a); want = plain.leave(a); break;
            case "tray": got = desk.tray(a, b, c); want = plain.tray(a, b, c); break;
            case "cell": got = desk.cell(a, b); want = plain.cell(a, b); break;
            case "cells": got = desk.cells(a); want = plain.cells(a); break;
            case "told": got = desk.told(a); want = plain.told(a); break;
            case "value": got = desk.value(); want = plain.value(); break;
            case "logged": got = desk.logged(a); want = plain.logged(a); break;
            case "failure": got = desk.failure(a, b); want = plain.failure(a, b); break;
            case "meter": got = desk.meter(a); want = plain.meter(a); break;
            case "back": got = desk.back(a); want = plain.back(a); break;
            case "listener": got = desk.listener(a, b); want = plain.listener(a, b); break;
            case "turn": got = desk.turn(a, b, c); want = plain.turn(a, b, c); break;
            case "under": got = desk.under(a, b); want = plain.under(a, b); break;
            default: got = desk.count(a); want = plain.count(a); break;
        }
        check.due("run " + run + ": " + call + " " + a + " " + b + " " + c, got, want);
    }

    private void makeKind() {
        int size = plain.count(0);
        boolean isRoot = size == 0 || random.nextInt(6) == 0;
        due("kind", isRoot ? ShowDesk.NONE : argument(random.nextInt(3) == 0 ? size : size - 1), 0, 0);
    }

    private void makeListener() {
        int kind = argument(plain.count(0) - 1);
        int phase = random.nextInt(40) == 0 ? 3 : random.nextInt(3);
        int rank = random.nextInt(10) == 0 ? random.nextInt() : random.nextInt(4);
        int scene = random.nextInt(3) > 0 ? ShowDesk.NONE : argument(plain.count(1));
        if (isAtTheEnd()) return;
        check.due("run " + run + ": listen", desk.listen(kind, phase, rank, scene), plain.listen(kind, phase, rank, scene));
    }

    private int someListener() {
        return argument(plain.count(3));
    }

    private void addStep() {
        int op = random.nextInt(60) == 0 ? 18 : random.nextInt(18);
        if (nests && random.nextInt(4) == 0) op = 11 + random.nextInt(2);
        // Vetoes and removals leave little to see when they are as common as the rest.
        if ((op == 2 || op == 10 || op == 13) && random.nextInt(3) > 0) op = 0;
        int n = argument(10);
        if (op == 3) n += 20;
        if (op == 9 || op == 10) n = someListener();
        if (op == 11 || op == 12) n = argument(plain.count(0) - 1);
        if (op == 13) n = argument(plain.count(1));
        due("step", someListener(), op, n);
    }

    private void send() {
        int kind = argument(plain.count(0) - 1);
        long v = value();
        if (isAtTheEnd()) return;
        check.due("run " + run + ": send " + kind + " " + v, desk.send(kind, v), plain.send(kind, v));
        compareReport();
    }

    private void changeListener() {
        int l = someListener();
        int choice = random.nextInt(8);
        if (choice == 0) due("leave", l, 0, 0);
        else if (choice < 4) due("once", l, random.nextInt(2), 0);
        else {
            long low = value() - 15;
            long high = random.nextInt(8) == 0 ? value() : low + random.nextInt(60);
            if (isAtTheEnd()) return;
            check.due("run " + run + ": filter", desk.filter(l, low, high), plain.filter(l, low, high));
        }
    }

    private void changeTray() {
        int t = argument(7);
        if (random.nextBoolean()) {
            due("tray", t, random.nextInt(3) > 0 ? 1 : argument(3), argument(16));
            return;
        }
        int i = argument(9);
        long v = random.nextLong();
        if (isAtTheEnd()) return;
        check.due("run " + run + ": lay", desk.lay(t, i, v), plain.lay(t, i, v));
    }

    private void changeScene() {
        if (random.nextInt(3) > 0) due("scene", 0, 0, 0);
        else due("close", argument(plain.count(1)), 0, 0);
    }

    private void ask() {
        switch (random.nextInt(11)) {
            case 0: due("cell", argument(7), argument(16), 0); break;
            case 1: due("cells", argument(8), 0, 0); break;
            case 2: due("told", argument(8), 0, 0); break;
            case 3: due("logged", argument(random.nextBoolean() ? plain.told(3) : 110), 0, 0); break;
            case 4: due("failure", argument(random.nextBoolean() ? plain.told(4) : 36), argument(3), 0); break;
            case 5: due("meter", argument(plain.count(0)), 0, 0); break;
            case 6:
            case 7: due("listener", someListener(), argument(9), 0); break;
            case 8: due("turn", argument(plain.count(0)), argument(2), argument(9)); break;
            case 9: due("under", argument(plain.count(0)), argument(plain.count(0)), 0); break;
            default: due("count", argument(6), 0, 0); break;
        }
    }

    private void compareReport() {
        for (int what = 0; what <= 7; what++) due("told", what, 0, 0);
        due("value", 0, 0, 0);
        due("logged", random.nextInt(plain.told(3) + 1), 0, 0);
        int failure = random.nextInt(plain.told(4) + 1);
        for (int what = 0; what <= 2; what++) due("failure", failure, what, 0);
    }
}
