/** The desks that tests begin with; tests extend it to have these at hand. */
abstract class Desks {
    static final int NO = ShowDesk.NONE;
    static final int BAD = ShowDesk.BAD;
    static final int STATE = ShowDesk.STATE;
    static final int FULL = ShowDesk.FULL;
    static final int BEFORE = 0, AT = 1, AFTER = 2;
    static final int NULL = 1, INDEX = 2, CAST = 3, SIZE = 4, ZERO = 5, ROOM = 6, DEEP = 7, LATE = 8, MANY = 9;
    static final int LEAST = Integer.MIN_VALUE;
    static final int MOST = Integer.MAX_VALUE;

    /** A desk with kinds that are each under the one that came ahead. */
    static ShowDesk line(int kinds) {
        ShowDesk x = new ShowDesk();
        for (int i = 0; i < kinds; i++) x.kind(i == 0 ? NO : i - 1);
        return x;
    }

    /** A desk with kinds that are under none. */
    static ShowDesk roots(int kinds) {
        ShowDesk x = new ShowDesk();
        for (int i = 0; i < kinds; i++) x.kind(NO);
        return x;
    }

    /** A listener with a program, told as op, n, op, n, .. */
    static int add(ShowDesk x, int kind, int phase, int rank, int... program) {
        return addIn(x, NO, kind, phase, rank, program);
    }

    static int addIn(ShowDesk x, int scene, int kind, int phase, int rank, int... program) {
        int listener = x.listen(kind, phase, rank, scene);
        for (int i = 0; i < program.length; i += 2) x.step(listener, program[i], program[i + 1]);
        return listener;
    }

    static void addMany(ShowDesk x, int many, int kind, int phase, int... program) {
        for (int i = 0; i < many; i++) add(x, kind, phase, 0, program);
    }

    /** A program that does one step again and again. */
    static int[] times(int many, int op, int n) {
        int[] program = new int[2 * many];
        for (int i = 0; i < many; i++) {
            program[2 * i] = op;
            program[2 * i + 1] = n;
        }
        return program;
    }
}
