/** Boundary cases of promises 10 tray, 11 lay, 12 cell, 13 cells. */
final class TrayBounds extends Bounds {
    private static final int BYTES = 0, INTS = 1, LONGS = 2;

    private static final String TRAY = "A TRAY is a new row of n CELLS (0) of a lane: n.";
    private static final String TRAY_REFUSED = "BAD: also n above 16; -10 - 4: n is below 0.";
    private static final String LAY = "CELL i of a TRAY becomes v (its lowest bits): 1.";
    private static final String LAY_REFUSED = "BAD: t; -10 less the FAILURE: NULL, INDEX.";
    private static final String NO_CELL = "0 also: there is none such.";
    private static final String CELLS_REFUSED = "BAD; NONE: it has nothing.";

    TrayBounds(Sentences sentences) {
        super(sentences);
    }

    @Override
    void run() {
        trayEdges();
        trayBad();
        traySize();
        layLowestBits();
        layBad();
        layNull();
        layIndex();
        cellEdges();
        cellNone();
        cellsEdges();
        cellsBad();
        cellsNone();
    }

    /** Tray t has n longs, all -1. */
    private static ShowDesk laid(int t, int n) {
        ShowDesk x = new ShowDesk();
        x.tray(t, LONGS, n);
        for (int i = 0; i < n; i++) x.lay(t, i, -1);
        return x;
    }

    private void trayEdges() {
        sentences.test("Promise 10: tray", TRAY, "0 and 16 CELLS, in each lane, all 0, also where a row was");
        for (int lane = BYTES; lane <= LONGS; lane++) {
            ShowDesk x = laid(0, 16);
            due("tray(7, " + lane + ", 0)", x.tray(7, lane, 0), 0);
            due("tray(0, " + lane + ", 16)", x.tray(0, lane, 16), 16);
            for (int i = 0; i < 16; i++) due("cell(0, " + i + ")", x.cell(0, i), 0);
        }
        ShowDesk x = laid(0, 16);
        due("tray(0, 2, 1)", x.tray(0, LONGS, 1), 1);
        due("cell(0, 1)", x.cell(0, 1), 0);
        due("tray(0, 2, 16)", x.tray(0, LONGS, 16), 16);
        due("cell(0, 15)", x.cell(0, 15), 0);
    }

    private void trayBad() {
        sentences.test("Promise 10: tray", TRAY_REFUSED, "BAD: no such TRAY, no such lane, n above 16");
        ShowDesk x = laid(0, 2);
        dueEach("tray(#, 1, 1)", n -> x.tray(n, INTS, 1), BAD, LEAST, -1, 8, MOST);
        dueEach("tray(0, #, 1)", n -> x.tray(0, n, 1), BAD, LEAST, -1, 3, MOST);
        dueEach("tray(0, 1, #)", n -> x.tray(0, INTS, n), BAD, 17, 18, MOST);
        due("tray(8, 1, -1)", x.tray(8, INTS, -1), BAD);
        due("tray(0, 3, -1)", x.tray(0, 3, -1), BAD);
        due("cells(0)", x.cells(0), 2);
        due("cell(0, 1)", x.cell(0, 1), -1);
    }

    private void traySize() {
        sentences.test("Promise 10: tray", TRAY_REFUSED, "-14: n is below 0");
        ShowDesk x = laid(0, 2);
        dueEach("tray(0, 1, #)", n -> x.tray(0, INTS, n), -14, LEAST, -2, -1);
        due("cells(0)", x.cells(0), 2);
        due("cell(0, 1)", x.cell(0, 1), -1);
        due("tray(7, 1, -1)", x.tray(7, INTS, -1), -14);
        due("cells(7)", x.cells(7), NO);
    }

    private void layLowestBits() {
        sentences.test("Promise 11: lay", LAY, "what is too great for the lane wraps");
        ShowDesk x = new ShowDesk();
        for (int lane = BYTES; lane <= LONGS; lane++) x.tray(lane, lane, 16);
        long[] values = {127, 128, 255, 256, -128, -129, MOST, MOST + 1L, LEAST - 1L, 0xFFFFFFFFL, Long.MIN_VALUE,
            Long.MAX_VALUE};
        for (long v : values) {
            for (int lane = BYTES; lane <= LONGS; lane++) due("lay(" + lane + ", 15, " + v + ")", x.lay(lane, 15, v), 1);
            due("byte of " + v, x.cell(0, 15), (byte) v);
            due("int of " + v, x.cell(1, 15), (int) v);
            due("long of " + v, x.cell(2, 15), v);
        }
        dueEach("the cells beside it: cell(#, 14)", t -> x.cell(t, 14), 0, 0, 1, 2);
    }

    private void layBad() {
        sentences.test("Promise 11: lay", LAY_REFUSED, "BAD: no such TRAY, whatever the index");
        ShowDesk x = laid(7, 1);
        dueEach("lay(#, 0, 1)", n -> x.lay(n, 0, 1), BAD, LEAST, -1, 8, MOST);
        dueEach("lay(#, -1, 1)", n -> x.lay(n, -1, 1), BAD, -1, 8);
        due("cell(7, 0)", x.cell(7, 0), -1);
    }

    private void layNull() {
        sentences.test("Promise 11: lay", LAY_REFUSED, "-11: it has nothing, whatever the index");
        ShowDesk x = laid(1, 1);
        dueEach("lay(0, #, 1)", n -> x.lay(0, n, 1), -11, LEAST, -1, 0, 16, MOST);
        due("cells(0)", x.cells(0), NO);
    }

    private void layIndex() {
        sentences.test("Promise 11: lay", LAY_REFUSED, "-12: i is below 0, or no CELL is so far");
        ShowDesk x = laid(0, 3);
        x.tray(1, BYTES, 0);
        x.tray(2, INTS, 16);
        dueEach("lay(0, #, 1)", n -> x.lay(0, n, 1), -12, LEAST, -1, 3, 15, 16, MOST);
        dueEach("lay(1, #, 1) without CELLS", n -> x.lay(1, n, 1), -12, -1, 0, 1);
        dueEach("lay(2, #, 1)", n -> x.lay(2, n, 1), -12, -1, 16);
        dueEach("cell(0, #)", n -> x.cell(0, n), -1, 0, 1, 2);
    }

    private void cellEdges() {
        sentences.test("Promise 12: cell", "CELL i of a TRAY.", "the first and the last of the first and the last TRAY");
        ShowDesk x = new ShowDesk();
        x.tray(0, LONGS, 16);
        x.tray(7, LONGS, 16);
        x.lay(0, 0, Long.MIN_VALUE);
        x.lay(0, 15, 2);
        x.lay(7, 0, 3);
        x.lay(7, 15, Long.MAX_VALUE);
        due("cell(0, 0)", x.cell(0, 0), Long.MIN_VALUE);
        due("cell(0, 15)", x.cell(0, 15), 2);
        due("cell(7, 0)", x.cell(7, 0), 3);
        due("cell(7, 15)", x.cell(7, 15), Long.MAX_VALUE);
    }

    private void cellNone() {
        sentences.test("Promise 12: cell", NO_CELL, "no such TRAY, nothing, no such CELL");
        ShowDesk x = laid(0, 16);
        dueEach("cell(#, 0)", n -> x.cell(n, 0), 0, LEAST, -1, 1, 8, MOST);
        dueEach("cell(0, #)", n -> x.cell(0, n), 0, LEAST, -1, 16, MOST);
        x.tray(0, LONGS, 0);
        due("cell(0, 0) without CELLS", x.cell(0, 0), 0);
        ShowDesk y = laid(0, 3);
        y.tray(0, BYTES, 2);
        due("cell(0, 2) of a shorter row", y.cell(0, 2), 0);
    }

    private void cellsEdges() {
        sentences.test("Promise 13: cells", "How many CELLS a TRAY has.", "0 and 16, and those that a STEP lays");
        ShowDesk x = roots(1);
        x.tray(0, BYTES, 0);
        x.tray(7, LONGS, 16);
        due("cells(0)", x.cells(0), 0);
        due("cells(7)", x.cells(7), 16);
        add(x, 0, AT, 0, 17, 16, 16, 7, 17, 0);
        x.send(0, 1);
        due("cells(0) laid by a STEP", x.cells(0), 16);
        due("cells(7) laid by a STEP", x.cells(7), 0);
    }

    private void cellsBad() {
        sentences.test("Promise 13: cells", CELLS_REFUSED, "BAD: no such TRAY");
        dueEach("cells(#)", laid(0, 1)::cells, BAD, LEAST, -1, 8, MOST);
    }

    private void cellsNone() {
        sentences.test("Promise 13: cells", CELLS_REFUSED, "NONE: nothing, which no refused call changes");
        ShowDesk x = laid(0, 1);
        x.tray(3, INTS, 17);
        x.tray(4, INTS, -1);
        x.lay(5, 0, 1);
        dueEach("cells(#)", x::cells, NO, 1, 2, 3, 4, 5, 6, 7);
    }
}
