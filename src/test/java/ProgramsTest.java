/** Parts 2 and 3 of the Terms: programs that add and take away listeners, close scenes and send other cues. */
public final class ProgramsTest extends Desks {
    private static final Check CHECK = new Check("ProgramsTest");

    public static void main(String[] args) {
        onceGoesAheadOfItsProgram();
        comersHaveNoTurnInThePhase();
        comersAreLikeTheirModel();
        comersRefused();
        takingAway();
        closingScenes();
        cuesWithin();
        cuesWithinThatAreVetoed();
        cuesWithinRefused();
        twelveDeep();
        cuesForLater();
        fortyWait();
        sixtyCues();
        failuresAfterTheHush();
        CHECK.end();
    }

    private static void due(String what, long got, long want) {
        CHECK.due(what, got, want);
    }

    private static void dueFailure(ShowDesk x, int i, int what, int listener, int step) {
        due("failure " + i + ": what", x.failure(i, 0), what);
        due("failure " + i + ": listener", x.failure(i, 1), listener);
        due("failure " + i + ": step", x.failure(i, 2), step);
    }

    private static void onceGoesAheadOfItsProgram() {
        ShowDesk x = roots(1);
        int l = add(x, 0, AT, 0, 0, 1, 11, 0, 0, 10);
        x.once(l, true);
        due("it does not hear its own cue", x.send(0, 0), 2);
        due("its program goes on", x.value(), 11);
        due("told", x.listener(l, 7), 1);
        x = roots(1);
        l = add(x, 0, AT, 0, 10, 0);
        x.once(l, true);
        x.send(0, 0);
        dueFailure(x, 0, NULL, 0, 0);
    }

    private static void comersHaveNoTurnInThePhase() {
        ShowDesk x = roots(1);
        int copier = add(x, 0, AT, 5, 9, 1);
        add(x, 0, AT, 5, 0, 1);
        due("copier", copier, 0);
        x.send(0, 0);
        due("not told yet", x.value(), 1);
        due("come", x.count(3), 3);
        x.send(0, 0);
        due("told now", x.value(), 2);
        x = roots(1);
        add(x, 0, BEFORE, 5, 9, 1);
        add(x, 0, AFTER, 5, 0, 1);
        x.send(0, 0);
        due("one that comes ahead of its phase is told", x.value(), 2);
    }

    private static void comersAreLikeTheirModel() {
        ShowDesk x = roots(2);
        x.scene();
        int model = addIn(x, 0, 1, AFTER, -9, 16, 5, 0, 7);
        x.filter(model, 3, 4);
        x.once(model, true);
        x.send(1, 3);
        due("the model's tray", x.listener(model, 8), 5);
        due("the model has gone", x.listener(model, 0), 0);
        add(x, 0, AT, 0, 9, model);
        due("a comer", x.send(0, 0), 1);
        due("no failures", x.told(4), 0);
        long[] like = {1, 1, AFTER, -9, 0, 2, 1, 0, 0};
        for (int what = 0; what <= 8; what++) due("comer's " + what, x.listener(2, what), like[what]);
        due("its filter", x.send(1, 5), 1);
        due("passes by what is above", x.told(2), 0);
        x.send(1, 2);
        due("and what is below", x.told(2), 0);
        due("a step for it alone", x.step(2, 0, 30), 3);
        due("the model's steps", x.listener(model, 5), 2);
        x.send(1, 4);
        due("its program", x.value(), 41);
        due("its tray", x.listener(2, 8), 5);
        due("once", x.listener(2, 0), 0);
        x.send(0, 0);
        due("a comer like the first", x.listener(3, 5), 2);
        due("closes", x.close(0), 1);
    }

    private static void comersRefused() {
        ShowDesk x = roots(1);
        x.scene();
        addIn(x, 0, 0, BEFORE, 0);
        add(x, 0, AT, 9, 9, 4);
        add(x, 0, AT, 8, 9, -1);
        add(x, 0, AT, 7, 9, 0);
        x.close(0);
        x.send(0, 0);
        dueFailure(x, 0, NULL, 1, 0);
        dueFailure(x, 1, NULL, 2, 0);
        dueFailure(x, 2, NULL, 3, 0);
        due("none came", x.count(3), 4);
        x = roots(1);
        int half = add(x, 0, AT, 0, 9, 0, 9, 0);
        for (int i = 0; i < 198; i++) x.listen(0, BEFORE, 0, NO);
        x.send(0, 0);
        due("200 have come", x.count(3), 200);
        dueFailure(x, 0, ROOM, half, 1);
        x.leave(5);
        x.step(half, 0, 0);
        add(x, 0, AT, 0);
        x.send(0, 0);
        dueFailure(x, 0, ROOM, half, 0);
    }

    private static void takingAway() {
        ShowDesk x = roots(1);
        add(x, 0, AT, 9, 10, 1, 10, 0, 0, 5);
        add(x, 0, AT, 8, 0, 100);
        add(x, 0, AT, 7, 10, 1);
        add(x, 0, AT, 6, 10, 9);
        add(x, 0, AT, 5, 10, -1);
        x.send(0, 0);
        due("it goes on though it took itself away", x.value(), 5);
        due("the other had no turn", x.listener(1, 7), 0);
        due("gone", x.listener(0, 0) + x.listener(1, 0), 0);
        due("there", x.count(4), 3);
        dueFailure(x, 0, NULL, 2, 0);
        dueFailure(x, 1, NULL, 3, 0);
        dueFailure(x, 2, NULL, 4, 0);
        due("failures", x.told(4), 3);
    }

    private static void closingScenes() {
        ShowDesk x = roots(1);
        x.scene();
        x.scene();
        addIn(x, 1, 0, AT, 9, 13, 1, 0, 1, 13, 1);
        addIn(x, 1, 0, AT, 8, 0, 100);
        addIn(x, 0, 0, AT, 7, 13, 2, 0, 10);
        addIn(x, 0, 0, AFTER, 7, 13, -1, 0, 10);
        addIn(x, 0, 0, AFTER, 6, 13, NO, 0, 10);
        addIn(x, 0, 0, AFTER, 5, 13, 0, 0, 1000);
        x.send(0, 0);
        dueFailure(x, 0, NULL, 0, 2);
        dueFailure(x, 1, NULL, 2, 0);
        dueFailure(x, 2, NULL, 3, 0);
        dueFailure(x, 3, NULL, 4, 0);
        due("value", x.value(), 1000);
        due("none is there", x.count(4), 0);
        due("no scene is open", x.count(2), 0);
        due("it is closed", x.close(1), STATE);
    }

    private static void cuesWithin() {
        ShowDesk x = roots(2);
        add(x, 0, AT, 5, 0, 1, 11, 1, 8, 0);
        add(x, 1, BEFORE, 5, 0, 10);
        add(x, 1, AFTER, 5, 0, 100);
        due("cues", x.send(0, 0), 2);
        due("value", x.value(), 111);
        due("logged", x.logged(0), 111);
        due("meter of the outer kind", x.meter(0), 0);
        due("meter of the inner kind", x.meter(1), 11);
        due("most at once", x.told(6), 2);
        due("told", x.told(2), 3);
        due("the inner act is the latest", x.back(1), 1);
        due("moved back", x.meter(1), 0);
    }

    private static void cuesWithinThatAreVetoed() {
        ShowDesk x = roots(2);
        add(x, 0, BEFORE, 5, 0, 1, 11, 1, 0, 1000);
        add(x, 1, BEFORE, 6, 0, 10);
        int vetoer = add(x, 1, BEFORE, 5, 2, 0);
        due("cues", x.send(0, 0), 2);
        due("v stays", x.value(), 1001);
        due("its own cue was not vetoed", x.told(0), 0);
        due("nor by one", x.told(7), NO);
        due("vetoes", x.told(5), 1);
        due("no act", x.meter(1), 0);
        due("an act", x.meter(0), 1001);
        x.send(1, 3);
        due("by", x.told(7), vetoer);
        due("value as it was then", x.value(), 13);
    }

    private static void cuesWithinRefused() {
        ShowDesk x = roots(2);
        add(x, 0, AT, 5, 11, 2);
        add(x, 0, AT, 4, 11, -1);
        add(x, 0, AT, 3, 12, 2);
        add(x, 0, AT, 2, 12, NO);
        due("cues", x.send(0, 0), 1);
        for (int i = 0; i < 4; i++) dueFailure(x, i, NULL, i, 0);
    }

    private static void twelveDeep() {
        ShowDesk x = roots(1);
        add(x, 0, AT, 0, 0, 1, 11, 0);
        due("cues", x.send(0, 0), 12);
        due("at once", x.told(6), 12);
        due("failures", x.told(4), 1);
        dueFailure(x, 0, DEEP, 0, 1);
        due("the innermost failed, so its value stayed", x.value(), 11);
        add(x, 0, AT, -1, 11, 9);
        x.send(0, 0);
        due("no kind ahead of too deep", x.failure(1, 0), NULL);
        x.leave(0);
        x.send(0, 0);
        due("at once, of the latest send", x.told(6), 1);
    }

    private static void cuesForLater() {
        ShowDesk x = roots(3);
        add(x, 0, BEFORE, 0, 8, 0, 12, 1, 0, 5, 12, 2, 0, 100, 11, 2, 8, 0);
        add(x, 1, AT, 0, 1, 7, 8, 0, 12, 2);
        add(x, 2, AT, 0, 8, 0);
        due("cues", x.send(0, 1), 5);
        long[] log = {1, 106, 106, 7, 6, 7};
        for (int i = 0; i < log.length; i++) due("log " + i, x.logged(i), log[i]);
        due("logged", x.told(3), log.length);
        due("value of the first cue", x.value(), 106);
        due("at once", x.told(6), 2);
        due("meters", x.meter(1), 1);
        due("and", x.meter(2), 106 + 6 + 7);
        x = roots(2);
        add(x, 0, BEFORE, 0, 12, 1, 2, 0);
        add(x, 1, BEFORE, 0, 2, 0);
        due("a vetoed cue's later ones are told", x.send(0, 9), 2);
        due("vetoes", x.told(5), 2);
        due("by the first one's", x.told(7), 0);
        x.leave(0);
        due("a cue", x.send(0, 9), 1);
        due("not vetoed", x.told(0), 0);
        add(x, 0, AFTER, 0, 12, 1);
        due("a vetoed cue for later", x.send(0, 9), 2);
        due("does not veto the first one", x.told(0), 0);
        due("nor has the first one a vetoer", x.told(7), NO);
        due("but counts", x.told(5), 1);
    }

    private static void fortyWait() {
        ShowDesk x = roots(2);
        for (int i = 0; i < 4; i++) add(x, 0, AT, -i, 12, 1, 12, 1, 12, 1, 12, 1, 12, 1, 12, 1, 12, 1, 12, 1, 12, 1, 12, 1);
        due("40 wait", x.send(0, 1), 41);
        due("no failures", x.told(4), 0);
        int more = add(x, 0, AT, -9, 0, 1, 12, 1);
        due("41", x.send(0, 1), 41);
        dueFailure(x, 0, ROOM, more, 1);
        x.leave(more);
        add(x, 1, AT, 0, 10, 5, 12, 1, 12, 1);
        due("one that is told waits no more", x.send(0, 1), 42);
        due("but then there is no room", x.failure(0, 0), ROOM);
    }

    private static void sixtyCues() {
        ShowDesk x = roots(2);
        add(x, 0, AFTER, 0, 8, 0, 0, 1, 12, 0);
        due("60", x.send(0, 0), 60);
        due("told", x.told(1), 60);
        due("the last one", x.logged(59), 59);
        due("its meter", x.meter(0), 59 * 60 / 2);
        due("acts", x.count(5), 50);
        due("others are forgotten", x.send(1, 5), 1);
        due("no more", x.told(2), 0);
        x.leave(0);
        add(x, 0, BEFORE, 0, 12, 1, 12, 1, 12, 1, 12, 1, 12, 1, 12, 1, 12, 1, 12, 1, 12, 1);
        int asker = add(x, 1, AT, 0, 11, 1);
        x.filter(asker, 0, 5);
        int counter = add(x, 1, BEFORE, 0, 0, 1);
        due("six for each of the nine", x.send(0, 0), 55);
        due("counter", x.listener(counter, 7), 54);
        due("nothing fails", x.told(4), 0);
        x.leave(counter);
        due("60 again", x.send(0, 0), 60);
        due("four of the nine went 12 deep", x.told(6), 12);
        for (int i = 0; i < 4; i++) dueFailure(x, i, DEEP, asker, 0);
        dueFailure(x, 4, MANY, asker, 0);
        due("failures", x.told(4), 5);
    }

    private static void failuresAfterTheHush() {
        ShowDesk x = roots(1);
        add(x, 0, AT, 0, 11, 0, 3, 27);
        for (int i = 0; i < 24; i++) add(x, 0, AFTER, 0, 3, 20);
        due("cues", x.send(0, 0), 12);
        dueFailure(x, 0, DEEP, 0, 0);
        for (int i = 1; i < 24; i++) dueFailure(x, i, 20, i, 0);
        for (int i = 24; i < 35; i++) dueFailure(x, i, 27, 0, 1);
        due("no failure 35", x.failure(35, 0), BAD);
        due("failures", x.told(4), 35);
        due("told", x.told(2), 12 + 23);
        x = roots(3);
        add(x, 0, AT, 0, 11, 1, 0, 5, 11, 2, 8, 0);
        for (int i = 0; i < 24; i++) add(x, 1, AT, 0, 3, 20);
        add(x, 2, BEFORE, 0, 0, 100);
        due("cues are told on", x.send(0, 1), 3);
        due("an open program goes on", x.logged(0), 6);
        due("its value is taken", x.value(), 6);
        due("the last cue has its act", x.meter(2), 6);
        due("but no listeners", x.told(2), 1 + 24);
    }
}
