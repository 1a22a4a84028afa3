/** Boundary cases of part 2 of the Terms: the STEPS that touch TRAYS. */
final class TrayStepBounds extends Bounds {
    private static final int BYTES = 0, INTS = 1, LONGS = 2;
    private static final int READ = 14, WRITE = 15, CHOOSE = 16, LAY = 17;

    private static final String TOUCH = "14 v becomes CELL n of THE TRAY, 15 that CELL becomes v (as of its lane): "
        + "THE TRAY is that of the LISTENER's TRAY number, and is taken as INTS: CAST (it has another lane); "
        + "NULL (nothing); INDEX.";
    private static final String CHOOSING = "16 the LISTENER's TRAY number becomes n (0 to 7; else INDEX; 0 at first).";
    private static final String LAYING = "17 n CELLS of INTS are laid as THE TRAY: SIZE (n below 0); ROOM (above 16).";

    TrayStepBounds(Sentences sentences) {
        super(sentences);
    }

    @Override
    void run() {
        touchTheFirstAndTheLast();
        touchWraps();
        touchCast();
        touchNull();
        touchIndex();
        chooseEdges();
        chooseIndex();
        layEdges();
        laySize();
        layRoom();
    }

    private static ShowDesk deskWith(int lane, int cells) {
        ShowDesk x = roots(1);
        x.tray(0, lane, cells);
        for (int i = 0; i < cells; i++) x.lay(0, i, 40 + i);
        return x;
    }

    private void touchTheFirstAndTheLast() {
        sentences.test("Terms", TOUCH, "CELL 0 and CELL 15");
        ShowDesk x = deskWith(INTS, 16);
        add(x, 0, AT, 0, READ, 15, 8, 0, WRITE, 0, READ, 14, WRITE, 15, READ, 0);
        x.send(0, 1);
        dueFailures(x, 0);
        due("logged(0)", x.logged(0), 55);
        due("cell(0, 0)", x.cell(0, 0), 55);
        due("cell(0, 15)", x.cell(0, 15), 54);
        due("value()", x.value(), 55);
    }

    private void touchWraps() {
        sentences.test("Terms", TOUCH, "a VALUE that is too great for an INT wraps, and is read as it was laid");
        for (long v : edgesOfLongs()) {
            ShowDesk x = deskWith(INTS, 2);
            add(x, 0, AT, 0, WRITE, 1, 8, 0, READ, 1);
            x.send(0, v);
            due("cell(0, 1)", x.cell(0, 1), (int) v);
            due("writing leaves v", x.logged(0), v);
            due("value()", x.value(), (int) v);
            due("cell(0, 0)", x.cell(0, 0), 40);
        }
    }

    private void dueFaultAndCells(String what, int lane, int cells, int fault, int op, int n) {
        ShowDesk x = deskWith(lane, cells);
        dueFault(what, x, fault, 0, 1, op, n);
        due(what + ": cells(0)", x.cells(0), cells);
        for (int i = 0; i < cells; i++) due(what + ": cell(0, " + i + ")", x.cell(0, i), 40 + i);
    }

    private void touchCast() {
        sentences.test("Terms", TOUCH, "CAST: another lane, also without such a CELL");
        int[] indices = {LEAST, -1, 0, 1, 2, MOST};
        for (int op = READ; op <= WRITE; op++) {
            for (int i : indices) {
                dueFaultAndCells("BYTES, CELL " + i, BYTES, 2, CAST, op, i);
                dueFaultAndCells("LONGS, CELL " + i, LONGS, 2, CAST, op, i);
            }
            dueFaultAndCells("no BYTES", BYTES, 0, CAST, op, 0);
            dueFaultAndCells("no LONGS", LONGS, 0, CAST, op, 0);
        }
    }

    private void touchNull() {
        sentences.test("Terms", TOUCH, "NULL: nothing, whatever the index");
        int[] indices = {LEAST, -1, 0, 16, MOST};
        for (int op = READ; op <= WRITE; op++) {
            for (int i : indices) {
                ShowDesk x = roots(1);
                dueFault("CELL " + i + " of nothing", x, NULL, 0, 1, op, i);
                due("cells(0)", x.cells(0), NO);
            }
        }
    }

    private void touchIndex() {
        sentences.test("Terms", TOUCH, "INDEX: below 0, past the last, no CELLS");
        int[] indices = {LEAST, -1, 2, 15, 16, MOST};
        for (int op = READ; op <= WRITE; op++) {
            for (int i : indices) dueFaultAndCells("CELL " + i + " of 2", INTS, 2, INDEX, op, i);
            dueFaultAndCells("CELL 0 of none", INTS, 0, INDEX, op, 0);
            dueFaultAndCells("CELL 16 of 16", INTS, 16, INDEX, op, 16);
        }
    }

    private void chooseEdges() {
        sentences.test("Terms", CHOOSING, "0 at first, then 7, then 0 again; each LISTENER has its own");
        ShowDesk x = roots(1);
        x.tray(0, INTS, 1);
        x.tray(7, INTS, 1);
        add(x, 0, AT, 9, WRITE, 0, CHOOSE, 7, 0, 1, WRITE, 0);
        add(x, 0, AT, 8, CHOOSE, 7, CHOOSE, 0, READ, 0);
        x.send(0, 5);
        due("cell(0, 0)", x.cell(0, 0), 5);
        due("cell(7, 0)", x.cell(7, 0), 6);
        due("value()", x.value(), 5);
        due("listener(0, 8)", x.listener(0, 8), 7);
        due("listener(1, 8)", x.listener(1, 8), 0);
        x.send(0, 10);
        due("the number stays for the next CUE: cell(0, 0)", x.cell(0, 0), 5);
        due("cell(7, 0) then", x.cell(7, 0), 11);
    }

    private void chooseIndex() {
        sentences.test("Terms", CHOOSING, "INDEX: not 0 to 7; the number stays");
        int[] wrong = {LEAST, NO, -1, 8, MOST};
        for (int n : wrong) {
            ShowDesk x = roots(1);
            dueFault("TRAY number " + n, x, INDEX, CHOOSE, 3, CHOOSE, n);
            due("listener(0, 8)", x.listener(0, 8), 3);
        }
    }

    private void layEdges() {
        sentences.test("Terms", LAYING, "0 and 16 CELLS, all 0, in place of another lane");
        for (int lane = BYTES; lane <= LONGS; lane++) {
            ShowDesk x = deskWith(lane, 16);
            add(x, 0, AT, 0, LAY, 16, READ, 15, WRITE, 0, LAY, 16, 0, MOST, WRITE, 15);
            x.send(0, 1);
            dueFailures(x, 0);
            due("cells(0)", x.cells(0), 16);
            for (int i = 0; i < 15; i++) due("cell(0, " + i + ")", x.cell(0, i), 0);
            due("cell(0, 15)", x.cell(0, 15), MOST);
        }
        ShowDesk y = deskWith(LONGS, 2);
        dueFault("no CELLS", y, INDEX, LAY, 0, READ, 0);
        due("cells(0)", y.cells(0), 0);
        due("cell(0, 0)", y.cell(0, 0), 0);
    }

    private void laySize() {
        sentences.test("Terms", LAYING, "SIZE: n below 0");
        int[] below = {LEAST, -2, -1};
        for (int n : below) dueFaultAndCells(n + " CELLS", LONGS, 3, SIZE, LAY, n);
    }

    private void layRoom() {
        sentences.test("Terms", LAYING, "ROOM: above 16");
        int[] above = {17, 18, MOST};
        for (int n : above) dueFaultAndCells(n + " CELLS", LONGS, 3, ROOM, LAY, n);
    }
}
