/** Promises 5 listen, 6 filter, 7 once, 8 step, 9 leave, 21 listener, 22 turn. */
public final class ListenersTest extends Desks {
    private static final Check CHECK = new Check("ListenersTest");

    public static void main(String[] args) {
        listening();
        twoHundredListeners();
        refusalsOfListenInOrder();
        filters();
        onceOnly();
        steps();
        leaving();
        whatAListenerIs();
        turnsByRankNearnessAndNumber();
        turnsOfThoseThatAreThere();
        CHECK.end();
    }

    private static void due(String what, long got, long want) {
        CHECK.due(what, got, want);
    }

    private static void listening() {
        ShowDesk x = line(2);
        x.scene();
        x.scene();
        x.close(1);
        due("before", x.listen(0, 0, 5, NO), 0);
        due("at, least rank", x.listen(1, 1, Integer.MIN_VALUE, 0), 1);
        due("after, greatest rank", x.listen(1, 2, Integer.MAX_VALUE, NO), 2);
        due("no kind", x.listen(2, 0, 0, NO), BAD);
        due("kind -1", x.listen(-1, 0, 0, NO), BAD);
        due("kind NONE", x.listen(NO, 0, 0, NO), BAD);
        due("phase 3", x.listen(0, 3, 0, NO), BAD);
        due("phase -1", x.listen(0, -1, 0, NO), BAD);
        due("scene to come", x.listen(0, 0, 0, 2), BAD);
        due("scene -1", x.listen(0, 0, 0, -1), BAD);
        due("closed scene", x.listen(0, 0, 0, 1), STATE);
        due("a bad phase ahead of a closed scene", x.listen(0, 3, 0, 1), BAD);
        due("ever", x.count(3), 3);
        due("there", x.count(4), 3);
    }

    private static void twoHundredListeners() {
        ShowDesk x = line(1);
        for (int i = 0; i < 200; i++) due("listener " + i, x.listen(0, i % 3, -i, NO), i);
        due("number 201", x.listen(0, 0, 0, NO), FULL);
        due("one leaves", x.leave(0), 1);
        due("its number is used up", x.listen(0, 0, 0, NO), FULL);
        due("all the others are told", x.send(0, 1), 1);
        due("how many", x.told(2), 199);
        due("the last", x.listener(199, 0), 1);
        due("there is no number 200", x.listener(200, 0), BAD);
        due("nor can it leave", x.leave(200), BAD);
    }

    private static void refusalsOfListenInOrder() {
        ShowDesk x = line(1);
        x.scene();
        x.close(0);
        for (int i = 0; i < 200; i++) x.listen(0, 0, 0, NO);
        due("BAD ahead of FULL", x.listen(1, 0, 0, NO), BAD);
        due("STATE ahead of FULL", x.listen(0, 0, 0, 0), STATE);
        due("FULL", x.listen(0, 0, 0, NO), FULL);
    }

    private static int toldWith(ShowDesk x, long v) {
        x.send(0, v);
        return x.told(2);
    }

    private static void filters() {
        ShowDesk x = line(1);
        x.listen(0, 0, 0, NO);
        due("all longs at first, least", toldWith(x, Long.MIN_VALUE), 1);
        due("all longs at first, greatest", toldWith(x, Long.MAX_VALUE), 1);
        due("a filter", x.filter(0, -3, 5), 1);
        due("below", toldWith(x, -4), 0);
        due("low", toldWith(x, -3), 1);
        due("high", toldWith(x, 5), 1);
        due("above", toldWith(x, 6), 0);
        due("high below low", x.filter(0, 5, 4), BAD);
        due("the refused filter is not taken", toldWith(x, 0), 1);
        due("of one value", x.filter(0, 1L << 40, 1L << 40), 1);
        due("that value", toldWith(x, 1L << 40), 1);
        due("another with like lowest bits", toldWith(x, 0), 0);
        due("no listener", x.filter(1, 0, 1), BAD);
        due("listener -1", x.filter(-1, 0, 1), BAD);
        x.leave(0);
        due("gone", x.filter(0, 0, 1), STATE);
        due("BAD ahead of STATE", x.filter(0, 1, 0), BAD);
    }

    private static void onceOnly() {
        ShowDesk x = line(1);
        x.listen(0, 0, 0, NO);
        due("not at first", x.once(0, false), 0);
        due("nor then", x.once(0, true), 0);
        due("but then", x.once(0, true), 1);
        due("no more", x.once(0, false), 1);
        due("told", toldWith(x, 1), 1);
        due("still there", x.listener(0, 0), 1);
        x.once(0, true);
        x.filter(0, 5, 5);
        due("passed by", toldWith(x, 1), 0);
        due("one that is passed by does not go", x.listener(0, 0), 1);
        due("told once", toldWith(x, 5), 1);
        due("gone", x.listener(0, 0), 0);
        due("not again", toldWith(x, 5), 0);
        due("once of one that has gone", x.once(0, false), STATE);
        due("once of none", x.once(1, true), BAD);
        due("once of -1", x.once(-1, true), BAD);
    }

    private static void steps() {
        ShowDesk x = line(1);
        x.listen(0, 0, 0, NO);
        for (int op = -1; op <= 18; op++) {
            if (op >= 0 && op <= 17) continue;
            due("op " + op, x.step(0, op, 1), BAD);
        }
        due("failure 19", x.step(0, 3, 19), BAD);
        due("failure 30", x.step(0, 3, 30), BAD);
        due("failure 20", x.step(0, 3, 20), 1);
        due("failure 29", x.step(0, 3, 29), 2);
        due("other ops take any n", x.step(0, 0, Integer.MIN_VALUE), 3);
        due("n of 17", x.step(0, 17, 99), 4);
        due("no listener", x.step(1, 0, 0), BAD);
        due("listener -1", x.step(-1, 0, 0), BAD);
        for (int i = 5; i <= 10; i++) due("step " + i, x.step(0, 1, i), i);
        due("step 11", x.step(0, 1, 0), FULL);
        due("BAD ahead of FULL", x.step(0, 18, 0), BAD);
        due("how many", x.listener(0, 5), 10);
        x.leave(0);
        due("STATE ahead of FULL", x.step(0, 1, 0), STATE);
        due("BAD ahead of STATE", x.step(0, 3, 1), BAD);
        everyOpIsTaken();
    }

    private static void everyOpIsTaken() {
        ShowDesk x = line(1);
        x.listen(0, 0, 0, NO);
        x.listen(0, 0, 0, NO);
        for (int op = 0; op <= 17; op++) due("op " + op, x.step(op / 9, op, 25), op % 9 + 1);
    }

    private static void leaving() {
        ShowDesk x = line(1);
        x.listen(0, 0, 0, NO);
        x.listen(0, 0, 0, NO);
        due("leave", x.leave(0), 1);
        due("leave again", x.leave(0), STATE);
        due("leave of none", x.leave(2), BAD);
        due("leave -1", x.leave(-1), BAD);
        due("there", x.count(4), 1);
        due("told", toldWith(x, 1), 1);
        due("the gone one was not", x.listener(0, 7), 0);
    }

    private static void whatAListenerIs() {
        ShowDesk x = line(2);
        x.scene();
        x.listen(1, 2, -7, 0);
        x.listen(0, 1, 8, NO);
        x.step(0, 16, 6);
        x.step(0, 7, 0);
        x.once(0, true);
        long[] ahead = {1, 1, 2, -7, 0, 2, 1, 0, 0};
        for (int what = 0; what <= 8; what++) due("listener 0, " + what, x.listener(0, what), ahead[what]);
        x.send(1, 0);
        x.send(1, 0);
        long[] then = {0, 1, 2, -7, 0, 2, 1, 1, 6};
        for (int what = 0; what <= 8; what++) due("listener 0 then, " + what, x.listener(0, what), then[what]);
        long[] other = {1, 0, 1, 8, NO, 0, 0, 2, 0};
        for (int what = 0; what <= 8; what++) due("listener 1, " + what, x.listener(1, what), other[what]);
        due("what 9", x.listener(0, 9), BAD);
        due("what -1", x.listener(0, -1), BAD);
        due("no listener", x.listener(2, 0), BAD);
        due("listener -1", x.listener(-1, 0), BAD);
    }

    private static void turnsByRankNearnessAndNumber() {
        ShowDesk x = line(3);
        x.kind(0);
        x.listen(0, 1, 5, NO);
        x.listen(1, 1, 5, NO);
        x.listen(2, 1, 5, NO);
        x.listen(2, 1, 5, NO);
        x.listen(0, 1, 9, NO);
        x.listen(2, 1, Integer.MIN_VALUE, NO);
        x.listen(1, 1, 5, NO);
        x.listen(3, 1, 99, NO);
        x.listen(0, 1, Integer.MAX_VALUE, NO);
        dueTurns(x, 2, 1, 8, 4, 2, 3, 1, 6, 0, 5);
        dueTurns(x, 1, 1, 8, 4, 1, 6, 0);
        dueTurns(x, 0, 1, 8, 4, 0);
        dueTurns(x, 3, 1, 8, 7, 4, 0);
        dueTurns(x, 2, 0);
        dueTurns(x, 2, 2);
        due("no kind", x.turn(4, 1, 0), BAD);
        due("kind -1", x.turn(-1, 1, 0), BAD);
        due("phase 3", x.turn(0, 3, 0), BAD);
        due("phase -1", x.turn(0, -1, 0), BAD);
        due("a cue keeps to the order", x.send(2, 0), 1);
        due("all told", x.told(2), 8);
    }

    private static void dueTurns(ShowDesk x, int kind, int phase, int... listeners) {
        for (int i = 0; i < listeners.length; i++) {
            due("turn " + i + " of kind " + kind + " in phase " + phase, x.turn(kind, phase, i), listeners[i]);
        }
        due("turn past the last", x.turn(kind, phase, listeners.length), NO);
        due("turn -1", x.turn(kind, phase, -1), NO);
        due("greatest turn", x.turn(kind, phase, Integer.MAX_VALUE), NO);
        due("least turn", x.turn(kind, phase, Integer.MIN_VALUE), NO);
    }

    private static void turnsOfThoseThatAreThere() {
        ShowDesk x = line(1);
        x.scene();
        for (int i = 0; i < 4; i++) x.listen(0, 0, i, i == 1 ? 0 : NO);
        x.filter(2, 7, 7);
        dueTurns(x, 0, 0, 3, 2, 1, 0);
        x.leave(3);
        dueTurns(x, 0, 0, 2, 1, 0);
        x.close(0);
        dueTurns(x, 0, 0, 2, 0);
    }
}
