/** Boundary cases of promises 1 (a new object), 2 kind, 3 scene, 4 close, 23 under, 24 count. */
final class KindBounds extends Bounds {
    private static final String NEW = "No KINDS, SCENES, LISTENERS; TRAYS have nothing.";
    private static final String KIND = "A KIND under another one (NONE: none): its number.";
    private static final String KIND_REFUSED = "BAD; STATE: 10 would be more than above it; FULL.";
    private static final String SCENE = "A SCENE is opened: its number.";
    private static final String CLOSE = "A SCENE is closed: how many LISTENERS GO.";
    private static final String CLOSE_REFUSED = "BAD; STATE: it is closed.";
    private static final String UNDER = "Whether a KIND is another one or under it (1, 0).";
    private static final String COUNT = "How many: 0 KINDS, 1 SCENES ever, 2 open ones, 3 LISTENERS ever, "
        + "4 that are there, 5 ACTS that can be moved back.";

    KindBounds(Sentences sentences) {
        super(sentences);
    }

    @Override
    void run() {
        newObject();
        kindAndNone();
        kindBad();
        kindState();
        kindFull();
        sceneNumbers();
        sceneFull();
        closeCounts();
        closeBad();
        closeState();
        underEdges();
        underBad();
        countEdges();
        countBad();
    }

    private void newObject() {
        sentences.test("Promise 1: A new object", NEW, "empty");
        ShowDesk x = new ShowDesk();
        dueEach("count(#)", x::count, 0, 0, 1, 2, 3, 4, 5);
        dueEach("cells(#)", x::cells, NO, 0, 1, 2, 3, 4, 5, 6, 7);
        due("send(0, 1)", x.send(0, 1), BAD);
        due("close(0)", x.close(0), BAD);
        due("leave(0)", x.leave(0), BAD);
        due("listen(0, 0, 0, NONE)", x.listen(0, 0, 0, NO), BAD);
        due("turn(0, 0, 0)", x.turn(0, 0, 0), BAD);
        due("lay(0, 0, 1)", x.lay(0, 0, 1), -11);
        due("kind(0)", x.kind(0), BAD);
        due("back(50)", x.back(50), 0);
        due("of another object: kind(NONE)", new ShowDesk().kind(NO), 0);
        due("count(0) of this one", x.count(0), 0);
    }

    private void kindAndNone() {
        sentences.test("Promise 2: kind", KIND, "under none, and under the latest");
        ShowDesk x = new ShowDesk();
        due("kind(NONE)", x.kind(NO), 0);
        due("kind(0)", x.kind(0), 1);
        due("kind(NONE) again", x.kind(NO), 2);
        due("under(1, 0)", x.under(1, 0), 1);
        due("under(2, 0)", x.under(2, 0), 0);
        due("under(2, 1)", x.under(2, 1), 0);
    }

    private void kindBad() {
        sentences.test("Promise 2: kind", KIND_REFUSED, "BAD: no such KIND");
        ShowDesk x = roots(2);
        dueEach("kind(#)", x::kind, BAD, LEAST, -5, -3, -2, -1, 2, 39, 40, MOST);
        due("count(0)", x.count(0), 2);
    }

    private void kindState() {
        sentences.test("Promise 2: kind", KIND_REFUSED, "STATE: 10 above it, and 11");
        ShowDesk x = line(10);
        due("kind(9), 10 above it", x.kind(9), 10);
        due("kind(10), 11 above it", x.kind(10), STATE);
        due("kind(9) beside it", x.kind(9), 11);
        due("kind(11), 11 above it", x.kind(11), STATE);
        due("count(0)", x.count(0), 12);
    }

    private void kindFull() {
        sentences.test("Promise 2: kind", KIND_REFUSED, "FULL: the 41st");
        ShowDesk x = roots(39);
        due("kind(38), the 40th", x.kind(38), 39);
        due("kind(NONE), the 41st", x.kind(NO), FULL);
        due("kind(39)", x.kind(39), FULL);
        due("count(0)", x.count(0), 40);
    }

    private void sceneNumbers() {
        sentences.test("Promise 3: scene", SCENE, "a closed one's number is not used again");
        ShowDesk x = new ShowDesk();
        due("scene()", x.scene(), 0);
        x.close(0);
        due("scene() then", x.scene(), 1);
        due("close(0)", x.close(0), STATE);
    }

    private void sceneFull() {
        sentences.test("Promise 3: scene", "FULL.", "the 31st, though some are closed");
        ShowDesk x = new ShowDesk();
        for (int i = 0; i < 30; i++) due("scene()", x.scene(), i);
        due("the 31st", x.scene(), FULL);
        x.close(3);
        due("with one closed", x.scene(), FULL);
        due("count(1)", x.count(1), 30);
        due("count(2)", x.count(2), 29);
    }

    private void closeCounts() {
        sentences.test("Promise 4: close", CLOSE, "none, all 200, not those that had GONE");
        ShowDesk x = roots(1);
        for (int i = 0; i < 3; i++) x.scene();
        for (int i = 0; i < 199; i++) x.listen(0, i % 3, 0, 1);
        x.listen(0, 0, 0, 2);
        x.leave(0);
        x.leave(198);
        due("close(0), without LISTENERS", x.close(0), 0);
        due("close(1)", x.close(1), 197);
        due("count(4)", x.count(4), 1);
        due("close(2), with the 200th", x.close(2), 1);
        due("count(4) then", x.count(4), 0);
        due("send(0, 1)", x.send(0, 1), 1);
        due("told(2)", x.told(2), 0);
    }

    private void closeBad() {
        sentences.test("Promise 4: close", CLOSE_REFUSED, "BAD: no such SCENE");
        ShowDesk x = new ShowDesk();
        x.scene();
        x.scene();
        dueEach("close(#)", x::close, BAD, LEAST, -5, NO, -1, 2, 29, 30, MOST);
        due("count(2)", x.count(2), 2);
        due("close(1)", x.close(1), 0);
        for (int i = 2; i < 30; i++) x.scene();
        due("close(30) of 30", x.close(30), BAD);
    }

    private void closeState() {
        sentences.test("Promise 4: close", CLOSE_REFUSED, "STATE: closed by a call, by a STEP");
        ShowDesk x = roots(1);
        x.scene();
        x.scene();
        add(x, 0, AT, 0, 13, 1);
        x.close(0);
        due("close(0) again", x.close(0), STATE);
        x.send(0, 1);
        due("close(1)", x.close(1), STATE);
        due("count(2)", x.count(2), 0);
    }

    private void underEdges() {
        sentences.test("Promise 23: under", UNDER, "itself, 10 above, not the other way");
        ShowDesk x = line(11);
        x.kind(NO);
        due("under(10, 10)", x.under(10, 10), 1);
        due("under(10, 0)", x.under(10, 0), 1);
        due("under(0, 10)", x.under(0, 10), 0);
        due("under(11, 0)", x.under(11, 0), 0);
        ShowDesk y = roots(39);
        y.kind(0);
        due("under(39, 0)", y.under(39, 0), 1);
        // 39 and 7 are one another's like in the lowest five bits: a shift of an int would mix them up.
        due("under(39, 7)", y.under(39, 7), 0);
        due("under(7, 39)", y.under(7, 39), 0);
    }

    private void underBad() {
        sentences.test("Promise 23: under", "BAD.", "no such KIND on either side");
        ShowDesk x = roots(2);
        dueEach("under(#, 0)", n -> x.under(n, 0), BAD, LEAST, NO, -1, 2, 40, MOST);
        dueEach("under(0, #)", n -> x.under(0, n), BAD, LEAST, NO, -1, 2, 40, MOST);
        dueEach("under(#, #)", n -> x.under(n, n), BAD, LEAST, NO, -1, 2, 40, MOST);
    }

    private void countEdges() {
        sentences.test("Promise 24: count", COUNT, "all at their most");
        ShowDesk x = roots(40);
        for (int i = 0; i < 30; i++) x.scene();
        for (int i = 0; i < 200; i++) x.listen(0, AT, 0, i % 30);
        for (int i = 0; i < 51; i++) x.send(1, 1);
        long[] most = {40, 30, 30, 200, 200, 50};
        for (int what = 0; what <= 5; what++) due("count(" + what + ")", x.count(what), most[what]);
        for (int i = 0; i < 30; i++) x.close(i);
        x.back(50);
        long[] then = {40, 30, 0, 200, 0, 0};
        for (int what = 0; what <= 5; what++) due("count(" + what + ") then", x.count(what), then[what]);
    }

    private void countBad() {
        sentences.test("Promise 24: count", "BAD.", "what is not 0 to 5");
        dueEach("count(#)", roots(1)::count, BAD, LEAST, -1, 6, MOST);
    }
}
