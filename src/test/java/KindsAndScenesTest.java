/** Promises 1 (a new object), 2 kind, 3 scene, 4 close, 23 under, 24 count. */
public final class KindsAndScenesTest extends Desks {
    private static final Check CHECK = new Check("KindsAndScenesTest");

    public static void main(String[] args) {
        aNewObject();
        kindsUnderOneAnother();
        elevenKindsInALine();
        fortyKinds();
        refusalsOfKindInOrder();
        scenes();
        closedScenesTakeTheirListeners();
        counts();
        CHECK.end();
    }

    private static void due(String what, long got, long want) {
        CHECK.due(what, got, want);
    }

    private static void aNewObject() {
        ShowDesk x = new ShowDesk();
        for (int what = 0; what <= 5; what++) due("new count " + what, x.count(what), 0);
        for (int t = 0; t < 8; t++) due("new cells " + t, x.cells(t), NO);
        for (int what = 0; what <= 6; what++) due("new told " + what, x.told(what), 0);
        due("new told 7", x.told(7), NO);
        due("new value", x.value(), 0);
        due("new logged", x.logged(0), 0);
        due("new failure", x.failure(0, 0), BAD);
        due("new meter", x.meter(0), 0);
        due("new listener", x.listener(0, 0), BAD);
        due("new turn", x.turn(0, 0, 0), BAD);
        due("new under", x.under(0, 0), BAD);
        due("new back", x.back(50), 0);
        due("new send", x.send(0, 1), BAD);
        due("new close", x.close(0), BAD);
        due("new listen", x.listen(0, 0, 0, NO), BAD);
    }

    private static void kindsUnderOneAnother() {
        ShowDesk x = new ShowDesk();
        due("first kind", x.kind(NO), 0);
        due("under it", x.kind(0), 1);
        due("under that", x.kind(1), 2);
        due("beside it", x.kind(0), 3);
        due("another root", x.kind(NO), 4);
        due("under one to come", x.kind(5), BAD);
        due("under -1", x.kind(-1), BAD);
        due("under -5", x.kind(-5), BAD);
        due("under the least int", x.kind(Integer.MIN_VALUE), BAD);
        due("refused ones are not counted", x.count(0), 5);
        due("itself", x.under(2, 2), 1);
        due("one above", x.under(2, 1), 1);
        due("two above", x.under(2, 0), 1);
        due("the other way", x.under(0, 2), 0);
        due("a sibling's child", x.under(2, 3), 0);
        due("another tree", x.under(4, 0), 0);
        due("under of no kind", x.under(5, 0), BAD);
        due("under of no other kind", x.under(0, 5), BAD);
        due("under NONE", x.under(0, NO), BAD);
        due("under of -1", x.under(-1, 0), BAD);
    }

    private static void elevenKindsInALine() {
        ShowDesk x = new ShowDesk();
        x.kind(NO);
        for (int i = 1; i <= 10; i++) due("kind with " + i + " above", x.kind(i - 1), i);
        due("kind with 11 above", x.kind(10), STATE);
        due("kind with 10 above, beside", x.kind(9), 11);
        due("under the eleventh too", x.kind(11), STATE);
        due("the deepest is under the first", x.under(11, 0), 1);
        due("the deepest two are not under one another", x.under(11, 10), 0);
        due("counted", x.count(0), 12);
    }

    private static void fortyKinds() {
        ShowDesk x = new ShowDesk();
        for (int i = 0; i < 40; i++) due("kind " + i, x.kind(NO), i);
        due("kind 41", x.kind(NO), FULL);
        due("kind 41 under the last", x.kind(39), FULL);
        due("the last hears itself", x.under(39, 39), 1);
        due("the last is not under number 7", x.under(39, 7), 0);
        due("the last tells", x.send(39, 3), 1);
        due("the last has a meter", x.meter(39), 3);
        due("number 7 has its own", x.meter(7), 0);
    }

    private static void refusalsOfKindInOrder() {
        ShowDesk x = new ShowDesk();
        x.kind(NO);
        for (int i = 1; i < 40; i++) x.kind(i <= 10 ? i - 1 : NO);
        due("BAD ahead of FULL", x.kind(40), BAD);
        due("STATE ahead of FULL", x.kind(10), STATE);
        due("FULL", x.kind(9), FULL);
    }

    private static void scenes() {
        ShowDesk x = new ShowDesk();
        for (int i = 0; i < 30; i++) due("scene " + i, x.scene(), i);
        due("scene 31", x.scene(), FULL);
        due("close one", x.close(29), 0);
        due("close it again", x.close(29), STATE);
        due("its number is used up", x.scene(), FULL);
        due("close one that never was", x.close(30), BAD);
        due("close -1", x.close(-1), BAD);
        due("close NONE", x.close(NO), BAD);
        due("ever", x.count(1), 30);
        due("open", x.count(2), 29);
    }

    private static void closedScenesTakeTheirListeners() {
        ShowDesk x = new ShowDesk();
        x.kind(NO);
        x.scene();
        x.scene();
        for (int i = 0; i < 3; i++) x.listen(0, i, 0, 0);
        x.listen(0, 0, 0, 1);
        x.listen(0, 0, 0, NO);
        x.leave(1);
        due("those that had gone do not go again", x.close(0), 2);
        due("gone", x.listener(0, 0), 0);
        due("gone too", x.listener(2, 0), 0);
        due("of another scene", x.listener(3, 0), 1);
        due("of none", x.listener(4, 0), 1);
        due("there", x.count(4), 2);
        due("its scene stays told", x.listener(0, 4), 0);
        for (int i = 5; i < 200; i++) x.listen(0, 0, 0, 1);
        due("with 200 listeners", x.close(1), 196);
        due("there then", x.count(4), 1);
    }

    private static void counts() {
        ShowDesk x = new ShowDesk();
        x.kind(NO);
        x.kind(0);
        x.scene();
        x.scene();
        x.scene();
        x.close(1);
        for (int i = 0; i < 5; i++) x.listen(0, 0, 0, NO);
        x.leave(4);
        x.send(0, 1);
        due("kinds", x.count(0), 2);
        due("scenes ever", x.count(1), 3);
        due("open scenes", x.count(2), 2);
        due("listeners ever", x.count(3), 5);
        due("listeners there", x.count(4), 4);
        due("acts", x.count(5), 1);
        due("count 6", x.count(6), BAD);
        due("count -1", x.count(-1), BAD);
    }
}
