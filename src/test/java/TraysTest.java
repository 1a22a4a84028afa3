/** Promises 10 tray, 11 lay, 12 cell, 13 cells, and the steps 14 to 17 that touch trays. */
public final class TraysTest extends Desks {
    private static final Check CHECK = new Check("TraysTest");

    public static void main(String[] args) {
        newRows();
        layingByLane();
        layingRefused();
        cellsAreReadAndWritten();
        faultsOfTrays();
        choosingATray();
        layingInts();
        CHECK.end();
    }

    private static void due(String what, long got, long want) {
        CHECK.due(what, got, want);
    }

    private static void newRows() {
        ShowDesk x = new ShowDesk();
        due("16 bytes", x.tray(0, 0, 16), 16);
        due("no ints", x.tray(7, 1, 0), 0);
        due("2 longs", x.tray(3, 2, 2), 2);
        due("17", x.tray(0, 0, 17), BAD);
        due("-1", x.tray(0, 0, -1), -14);
        due("the least int", x.tray(0, 0, Integer.MIN_VALUE), -14);
        due("tray 8", x.tray(8, 0, 1), BAD);
        due("tray -1", x.tray(-1, 0, 1), BAD);
        due("lane 3", x.tray(0, 3, 1), BAD);
        due("lane -1", x.tray(0, -1, 1), BAD);
        due("BAD ahead of SIZE, tray", x.tray(8, 0, -1), BAD);
        due("BAD ahead of SIZE, lane", x.tray(0, 3, -1), BAD);
        due("cells 0", x.cells(0), 16);
        due("cells 7", x.cells(7), 0);
        due("cells 3", x.cells(3), 2);
        due("cells of nothing", x.cells(1), NO);
        due("cells 8", x.cells(8), BAD);
        due("cells -1", x.cells(-1), BAD);
        x.lay(3, 1, 9);
        x.tray(3, 2, 1);
        due("a shorter row", x.cells(3), 1);
        due("what it had is not there", x.cell(3, 1), 0);
        x.tray(3, 2, 2);
        due("new cells are 0", x.cell(3, 1), 0);
    }

    private static void layingByLane() {
        ShowDesk x = new ShowDesk();
        long wide = 0x1234567890ABCDEFL;
        for (int lane = 0; lane <= 2; lane++) {
            x.tray(lane, lane, 2);
            due("lay", x.lay(lane, 1, wide), 1);
            due("the other cell", x.cell(lane, 0), 0);
        }
        due("byte", x.cell(0, 1), (byte) wide);
        due("int", x.cell(1, 1), (int) wide);
        due("long", x.cell(2, 1), wide);
        x.lay(0, 1, 128);
        due("a byte wraps", x.cell(0, 1), -128);
        x.lay(1, 1, 1L << 31);
        due("an int wraps", x.cell(1, 1), Integer.MIN_VALUE);
        x.lay(2, 1, Long.MIN_VALUE);
        due("the least long", x.cell(2, 1), Long.MIN_VALUE);
    }

    private static void layingRefused() {
        ShowDesk x = new ShowDesk();
        x.tray(2, 1, 3);
        x.tray(4, 1, 0);
        due("nothing", x.lay(0, 0, 1), -11);
        due("nothing, with a bad index", x.lay(0, -1, 1), -11);
        due("index 3", x.lay(2, 3, 1), -12);
        due("index -1", x.lay(2, -1, 1), -12);
        due("no cells", x.lay(4, 0, 1), -12);
        due("tray 8", x.lay(8, 0, 1), BAD);
        due("tray -1", x.lay(-1, 0, 1), BAD);
        due("cell of nothing", x.cell(0, 0), 0);
        due("cell 3", x.cell(2, 3), 0);
        due("cell -1", x.cell(2, -1), 0);
        due("cell of tray 8", x.cell(8, 0), 0);
        due("cell of tray -1", x.cell(-1, 0), 0);
    }

    private static ShowDesk deskWithListener() {
        ShowDesk x = new ShowDesk();
        x.kind(NO);
        x.listen(0, 1, 0, NO);
        return x;
    }

    private static void cellsAreReadAndWritten() {
        ShowDesk x = deskWithListener();
        x.tray(0, 1, 2);
        x.lay(0, 0, -5);
        x.step(0, 15, 1);
        x.step(0, 14, 0);
        x.send(0, (1L << 33) + 6);
        due("written as an int", x.cell(0, 1), 6);
        due("read", x.value(), -5);
        due("no failures", x.told(4), 0);
        x.step(0, 15, 1);
        x.send(0, 3);
        due("what was read is written", x.cell(0, 1), -5);
    }

    private static void dueFault(String what, int op, int n, int lane, int cells, int fault) {
        ShowDesk x = deskWithListener();
        if (lane >= 0) x.tray(0, lane, cells);
        x.step(0, 0, 1);
        x.step(0, op, n);
        x.send(0, 77);
        due(what + ": value", x.value(), 77);
        due(what + ": fault", x.failure(0, 0), fault);
        due(what + ": listener", x.failure(0, 1), 0);
        due(what + ": step", x.failure(0, 2), 1);
        for (int i = 0; i < cells; i++) due(what + ": cell", x.cell(0, i), 0);
    }

    private static void faultsOfTrays() {
        for (int op = 14; op <= 15; op++) {
            dueFault("nothing", op, 0, -1, 0, 1);
            dueFault("nothing, bad index", op, -1, -1, 0, 1);
            dueFault("index 2", op, 2, 1, 2, 2);
            dueFault("index -1", op, -1, 1, 2, 2);
            dueFault("no cells", op, 0, 1, 0, 2);
            dueFault("bytes", op, 0, 0, 2, 3);
            dueFault("longs", op, 0, 2, 2, 3);
            dueFault("longs ahead of the index", op, 9, 2, 2, 3);
        }
        dueFault("tray number 8", 16, 8, -1, 0, 2);
        dueFault("tray number -1", 16, -1, -1, 0, 2);
        dueFault("-1 cells", 17, -1, -1, 0, 4);
        dueFault("the least int of cells", 17, Integer.MIN_VALUE, 2, 3, 4);
        dueFault("17 cells", 17, 17, 2, 3, 6);
    }

    private static void choosingATray() {
        ShowDesk x = deskWithListener();
        x.listen(0, 1, -1, NO);
        x.tray(0, 1, 1);
        x.tray(7, 1, 1);
        x.step(0, 15, 0);
        x.step(0, 16, 7);
        x.step(1, 0, 1);
        x.step(1, 15, 0);
        x.send(0, 3);
        due("its number ahead", x.cell(7, 0), 0);
        due("the other one's own number", x.cell(0, 0), 4);
        due("its number now", x.listener(0, 8), 7);
        due("the other one's", x.listener(1, 8), 0);
        x.send(0, 5);
        due("the number is kept", x.cell(7, 0), 5);
        due("the other one still writes there", x.cell(0, 0), 6);
    }

    private static void layingInts() {
        ShowDesk x = deskWithListener();
        x.tray(2, 0, 4);
        x.step(0, 16, 2);
        x.step(0, 17, 16);
        x.step(0, 15, 15);
        x.send(0, 1L << 20);
        due("no failures", x.told(4), 0);
        due("cells", x.cells(2), 16);
        due("they are ints", x.cell(2, 15), 1 << 20);
        due("others are 0", x.cell(2, 0), 0);
        x.lay(2, 3, 8);
        x.send(0, 1);
        due("laid anew", x.cell(2, 3), 0);
        x.listen(0, 2, 0, NO);
        x.step(1, 17, 0);
        x.send(0, 1);
        due("no cells", x.cells(0), 0);
    }
}
