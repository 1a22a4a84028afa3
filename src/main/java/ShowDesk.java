/** A show desk that tells cues to listeners; ../shared/DOC.md says what every call answers. */
public final class ShowDesk {
    public static final int BAD = -1, STATE = -2, FULL = -3, NONE = -4;

    private static final int MOST_KINDS = 40;
    private static final int MOST_ABOVE = 10;
    private static final int MOST_SCENES = 30;
    private static final int MOST_LISTENERS = 200;
    private static final int MOST_STEPS = 10;
    private static final int MOST_TRAYS = 8;
    private static final int MOST_CELLS = 16;
    private static final int MOST_DEEP = 12;
    private static final int MOST_CUES = 60;
    private static final int MOST_WAITING = 40;
    private static final int MOST_LOGGED = 100;
    private static final int MOST_ACTS = 50;
    private static final int FAILURES_TO_HUSH = 24;
    // Once the desk is hushed, each program that is still open around the last one can fail once more.
    private static final int MOST_FAILURES = FAILURES_TO_HUSH + MOST_DEEP - 1;

    private static final int PHASES = 3;
    private static final int BEFORE = 0, AT = 1, AFTER = 2;

    private static final int NOTHING = -1, BYTES = 0, INTS = 1, LONGS = 2;

    private static final int ADD = 0, SET = 1, VETO = 2, FAIL = 3, DIVIDE = 4, REMAINDER = 5;
    private static final int PASS_IF_BELOW = 6, END = 7, LOG = 8, COME_LIKE = 9, SEND_AWAY = 10;
    private static final int TELL_NOW = 11, TELL_LATER = 12, CLOSE_SCENE = 13, READ_CELL = 14;
    private static final int WRITE_CELL = 15, CHOOSE_TRAY = 16, LAY_TRAY = 17;

    private static final int NULL = 1, INDEX = 2, CAST = 3, SIZE = 4, ZERO = 5, ROOM = 6;
    private static final int DEEP = 7, LATE = 8, MANY = 9;
    private static final int LEAST_OWN_FAILURE = 20, GREATEST_OWN_FAILURE = 29;
    private static final int FAILURE_BASE = -10;

    // What a step leads to when it is no failure; failures are all above 0.
    private static final int GO_ON = 0, PASS_OVER = -1, ENDED = -2, VETOED = -3;

    // The teller makes the parts that it works on; the desk answers from the same ones.
    private final Teller teller = new Teller();
    private final Kinds kinds = teller.kinds;
    private final House house = teller.house;
    private final Tray[] trays = teller.trays;
    private final Acts acts = teller.acts;
    private final Report report = teller.report;

    public ShowDesk() {
    }

    public int kind(int above) {
        Kind over = kinds.find(above);
        if (over == null && above != NONE) return BAD;
        if (over != null && over.depth >= MOST_ABOVE) return STATE;
        return kinds.add(over);
    }

    public int scene() {
        return house.openScene();
    }

    public int close(int scene) {
        if (!house.hadScene(scene)) return BAD;
        if (!house.isOpen(scene)) return STATE;
        return house.shut(scene);
    }

    public int listen(int kind, int phase, int rank, int scene) {
        Kind of = kinds.find(kind);
        if (of == null || !isPhase(phase)) return BAD;
        if (scene != NONE && !house.hadScene(scene)) return BAD;
        if (!house.admits(scene)) return STATE;
        if (house.isFull()) return FULL;
        Listener comer = new Listener(house.come, of, phase, rank, scene);
        house.seat(comer);
        return comer.number;
    }

    public int filter(int listener, long low, long high) {
        Listener of = house.find(listener);
        if (of == null || high < low) return BAD;
        if (!of.there) return STATE;
        of.low = low;
        of.high = high;
        return 1;
    }

    public int once(int listener, boolean on) {
        Listener of = house.find(listener);
        if (of == null) return BAD;
        if (!of.there) return STATE;
        int was = asNumber(of.once);
        of.once = on;
        return was;
    }

    public int step(int listener, int op, int n) {
        Listener of = house.find(listener);
        if (of == null || op < ADD || op > LAY_TRAY) return BAD;
        if (op == FAIL && (n < LEAST_OWN_FAILURE || n > GREATEST_OWN_FAILURE)) return BAD;
        if (!of.there) return STATE;
        return of.program.add(op, n) ? of.program.size : FULL;
    }

    public int leave(int listener) {
        Listener of = house.find(listener);
        if (of == null) return BAD;
        if (!of.there) return STATE;
        house.letGo(of);
        return 1;
    }

    public int tray(int t, int lane, int n) {
        Tray of = findTray(trays, t);
        if (of == null || lane < BYTES || lane > LONGS || n > MOST_CELLS) return BAD;
        if (n < 0) return FAILURE_BASE - SIZE;
        of.renew(lane, n);
        return n;
    }

    public int lay(int t, int i, long v) {
        Tray of = findTray(trays, t);
        if (of == null) return BAD;
        if (of.lane == NOTHING) return FAILURE_BASE - NULL;
        if (!of.hasCell(i)) return FAILURE_BASE - INDEX;
        of.put(i, v);
        return 1;
    }

    public long cell(int t, int i) {
        Tray of = findTray(trays, t);
        return of != null && of.hasCell(i) ? of.row[i] : 0L;
    }

    public int cells(int t) {
        Tray of = findTray(trays, t);
        if (of == null) return BAD;
        return of.lane == NOTHING ? NONE : of.size;
    }

    public int send(int kind, long v) {
        Kind of = kinds.find(kind);
        return of == null ? BAD : teller.tellAll(of, v);
    }

    public int told(int what) {
        switch (what) {
            case 0: return asNumber(report.vetoer != NONE);
            case 1: return report.cues;
            case 2: return report.listenersTold;
            case 3: return report.logged;
            case 4: return report.failures;
            case 5: return report.vetoes;
            case 6: return report.deepest;
            case 7: return report.vetoer;
            default: return BAD;
        }
    }

    public long value() {
        return report.value;
    }

    public long logged(int i) {
        return i >= 0 && i < report.logged && i < MOST_LOGGED ? report.log[i] : 0L;
    }

    public int failure(int i, int what) {
        if (i < 0 || i >= report.failures || i >= MOST_FAILURES) return BAD;
        switch (what) {
            case 0: return report.failureOf[i];
            case 1: return report.failureBy[i];
            case 2: return report.failureAt[i];
            default: return BAD;
        }
    }

    public long meter(int kind) {
        Kind of = kinds.find(kind);
        return of == null ? 0L : of.meter;
    }

    public int back(int n) {
        if (n < 0 || n > MOST_ACTS) return BAD;
        return acts.moveBack(n);
    }

    public int listener(int l, int what) {
        Listener of = house.find(l);
        if (of == null) return BAD;
        switch (what) {
            case 0: return asNumber(of.there);
            case 1: return of.kind.number;
            case 2: return of.phase;
            case 3: return of.rank;
            case 4: return of.scene;
            case 5: return of.program.size;
            case 6: return asNumber(of.once);
            case 7: return of.timesTold;
            case 8: return of.trayNumber;
            default: return BAD;
        }
    }

    public int turn(int kind, int phase, int i) {
        Kind of = kinds.find(kind);
        if (of == null || !isPhase(phase)) return BAD;
        return house.nameTurn(of, phase, i);
    }

    public int under(int kind, int of) {
        Kind low = kinds.find(kind);
        Kind high = kinds.find(of);
        if (low == null || high == null) return BAD;
        return asNumber(low.isUnder(high));
    }

    public int count(int what) {
        switch (what) {
            case 0: return kinds.size;
            case 1: return house.scenes;
            case 2: return house.openScenes;
            case 3: return house.come;
            case 4: return house.there;
            case 5: return acts.kept;
            default: return BAD;
        }
    }

    private static boolean isPhase(int phase) {
        return phase >= BEFORE && phase <= AFTER;
    }

    private static Tray findTray(Tray[] trays, int t) {
        return t >= 0 && t < trays.length ? trays[t] : null;
    }

    private static int asNumber(boolean yes) {
        return yes ? 1 : 0;
    }

    private static final class Kind {
        final int number;
        final int depth;
        // A bit for itself and one for each kind above it: whether it is under another is then one test.
        final long line;
        long meter;

        Kind(int number, Kind over) {
            this.number = number;
            this.depth = over == null ? 0 : over.depth + 1;
            this.line = (1L << number) | (over == null ? 0L : over.line);
        }

        boolean isUnder(Kind other) {
            return (line & (1L << other.number)) != 0L;
        }
    }

    private static final class Kinds {
        private final Kind[] all = new Kind[MOST_KINDS];
        int size;

        Kind find(int number) {
            return number >= 0 && number < size ? all[number] : null;
        }

        int add(Kind over) {
            if (size >= MOST_KINDS) return FULL;
            all[size] = new Kind(size, over);
            size++;
            return size - 1;
        }
    }

    private static final class Program {
        final int[] ops = new int[MOST_STEPS];
        final int[] numbers = new int[MOST_STEPS];
        int size;

        boolean add(int op, int n) {
            if (size >= MOST_STEPS) return false;
            ops[size] = op;
            numbers[size] = n;
            size++;
            return true;
        }

        void takeOver(Program other) {
            for (int i = 0; i < other.size; i++) add(other.ops[i], other.numbers[i]);
        }
    }

    private static final class Listener {
        final int number;
        final Kind kind;
        final int phase;
        final int rank;
        final int scene;
        final Program program = new Program();
        long low = Long.MIN_VALUE;
        long high = Long.MAX_VALUE;
        boolean once;
        boolean there = true;
        int timesTold;
        int trayNumber;
        Listener next;

        Listener(int number, Kind kind, int phase, int rank, int scene) {
            this.number = number;
            this.kind = kind;
            this.phase = phase;
            this.rank = rank;
            this.scene = scene;
        }

        boolean hears(Kind told) {
            return there && told.isUnder(kind);
        }

        boolean lets(long value) {
            return low <= value && value <= high;
        }

        // Of the kinds that one cue reaches, the deepest is the nearest, so the order is the same for all cues.
        boolean isAheadOf(Listener other) {
            if (rank != other.rank) return rank > other.rank;
            return kind.depth > other.kind.depth;
        }
    }

    /** The listeners and the scenes that they belong to. */
    private static final class House {
        private final Listener[] all = new Listener[MOST_LISTENERS];
        // For each phase a chain in the order of turns. Those that go stay linked, so a cue that is
        // walking along the chain is not led astray.
        private final Listener[] firsts = new Listener[PHASES];
        private final boolean[] open = new boolean[MOST_SCENES];
        int come;
        int there;
        int scenes;
        int openScenes;

        Listener find(int number) {
            return number >= 0 && number < come ? all[number] : null;
        }

        Listener findFirst(int phase) {
            return isPhase(phase) ? firsts[phase] : null;
        }

        boolean isFull() {
            return come >= MOST_LISTENERS;
        }

        // The newest has the greatest number, so it is linked behind all that are like it.
        void seat(Listener comer) {
            if (isFull() || !isPhase(comer.phase)) return;
            all[come] = comer;
            come++;
            there++;
            Listener ahead = null;
            Listener behind = firsts[comer.phase];
            while (behind != null && !comer.isAheadOf(behind)) {
                ahead = behind;
                behind = behind.next;
            }
            comer.next = behind;
            if (ahead == null) firsts[comer.phase] = comer;
            else ahead.next = comer;
        }

        int seatLike(int number) {
            Listener model = find(number);
            if (model == null || !admits(model.scene)) return NULL;
            if (isFull()) return ROOM;
            Listener comer = new Listener(come, model.kind, model.phase, model.rank, model.scene);
            comer.low = model.low;
            comer.high = model.high;
            comer.once = model.once;
            comer.program.takeOver(model.program);
            seat(comer);
            return GO_ON;
        }

        void letGo(Listener goer) {
            if (!goer.there) return;
            goer.there = false;
            there--;
        }

        int sendAway(int number) {
            Listener goer = find(number);
            if (goer == null || !goer.there) return NULL;
            letGo(goer);
            return GO_ON;
        }

        int nameTurn(Kind told, int phase, int place) {
            int passed = 0;
            for (Listener at = findFirst(phase); at != null; at = at.next) {
                if (!at.hears(told)) continue;
                if (passed == place) return at.number;
                passed++;
            }
            return NONE;
        }

        int openScene() {
            if (scenes >= MOST_SCENES) return FULL;
            open[scenes] = true;
            scenes++;
            openScenes++;
            return scenes - 1;
        }

        boolean hadScene(int scene) {
            return scene >= 0 && scene < scenes;
        }

        boolean isOpen(int scene) {
            return scene >= 0 && scene < scenes && open[scene];
        }

        boolean admits(int scene) {
            return scene == NONE || isOpen(scene);
        }

        int shut(int scene) {
            if (!isOpen(scene)) return 0;
            open[scene] = false;
            openScenes--;
            int thereBefore = there;
            for (int i = 0; i < come; i++) {
                Listener at = all[i];
                if (at != null && at.scene == scene) letGo(at);
            }
            return thereBefore - there;
        }
    }

    private static final class Tray {
        final long[] row = new long[MOST_CELLS];
        int lane = NOTHING;
        int size;

        void renew(int newLane, int newSize) {
            if (newSize < 0 || newSize > MOST_CELLS) return;
            lane = newLane;
            size = newSize;
            for (int i = 0; i < newSize; i++) row[i] = 0L;
        }

        int layInts(int n) {
            if (n < 0) return SIZE;
            if (n > MOST_CELLS) return ROOM;
            renew(INTS, n);
            return GO_ON;
        }

        boolean hasCell(int i) {
            return i >= 0 && i < size;
        }

        void put(int i, long v) {
            if (!hasCell(i)) return;
            if (lane == BYTES) row[i] = (byte) v;
            else if (lane == INTS) row[i] = (int) v;
            else row[i] = v;
        }

        int faultAsInts(int i) {
            if (lane == NOTHING) return NULL;
            if (lane != INTS) return CAST;
            return hasCell(i) ? GO_ON : INDEX;
        }
    }

    /** The acts that can be moved back: a ring, in which a new one takes the oldest one's place. */
    private static final class Acts {
        private final Kind[] of = new Kind[MOST_ACTS];
        private final long[] values = new long[MOST_ACTS];
        private int next;
        int kept;

        void make(Kind kind, long value) {
            kind.meter += value;
            of[next] = kind;
            values[next] = value;
            next = (next + 1) % MOST_ACTS;
            if (kept < MOST_ACTS) kept++;
        }

        int moveBack(int n) {
            int moved = Math.min(n, kept);
            for (int i = 0; i < moved; i++) {
                next = (next + MOST_ACTS - 1) % MOST_ACTS;
                Kind kind = of[next];
                if (kind != null) kind.meter -= values[next];
            }
            kept -= moved;
            return moved;
        }
    }

    /** What is asked about the latest send. */
    private static final class Report {
        final long[] log = new long[MOST_LOGGED];
        final int[] failureOf = new int[MOST_FAILURES];
        final int[] failureBy = new int[MOST_FAILURES];
        final int[] failureAt = new int[MOST_FAILURES];
        int cues;
        int listenersTold;
        int logged;
        int failures;
        int vetoes;
        int deepest;
        int vetoer = NONE;
        long value;

        void begin() {
            cues = 0;
            listenersTold = 0;
            logged = 0;
            failures = 0;
            vetoes = 0;
            deepest = 0;
        }

        void addCue(int depth) {
            cues++;
            deepest = Math.max(deepest, depth);
        }

        void addLogged(long v) {
            if (logged < MOST_LOGGED) log[logged] = v;
            logged++;
        }

        void addFailure(int failure, int listener, int step) {
            if (failures >= MOST_FAILURES) return;
            failureOf[failures] = failure;
            failureBy[failures] = listener;
            failureAt[failures] = step;
            failures++;
        }

        boolean isHushed() {
            return failures >= FAILURES_TO_HUSH;
        }
    }

    /** The cues that wait for later: a ring, the oldest first. */
    private static final class Waiting {
        private final Kind[] of = new Kind[MOST_WAITING];
        private final long[] values = new long[MOST_WAITING];
        private int first;
        int size;

        boolean add(Kind kind, long value) {
            if (size >= MOST_WAITING) return false;
            int place = (first + size) % MOST_WAITING;
            of[place] = kind;
            values[place] = value;
            size++;
            return true;
        }

        Kind firstKind() {
            return of[first];
        }

        long firstValue() {
            return values[first];
        }

        void dropFirst() {
            if (size == 0) return;
            first = (first + 1) % MOST_WAITING;
            size--;
        }

        void forget() {
            size = 0;
        }
    }

    /** A cue that is being told, with the value of the program that is done for it now. */
    private static final class Cue {
        final int depth;
        int phase;
        long value;
        long v;
        int vetoer;

        Cue(int depth) {
            this.depth = depth;
        }

        void begin(long newValue) {
            value = newValue;
            vetoer = NONE;
        }

        boolean isVetoed() {
            return vetoer != NONE;
        }
    }

    private static final class Teller {
        final Kinds kinds = new Kinds();
        final House house = new House();
        final Tray[] trays = new Tray[MOST_TRAYS];
        final Acts acts = new Acts();
        final Report report = new Report();
        private final Waiting waiting = new Waiting();
        // One for each depth, used again: a send makes no cues of its own.
        private final Cue[] cues = new Cue[MOST_DEEP];

        Teller() {
            for (int t = 0; t < MOST_TRAYS; t++) trays[t] = new Tray();
            for (int d = 0; d < MOST_DEEP; d++) cues[d] = new Cue(d + 1);
        }

        int tellAll(Kind kind, long value) {
            Cue outermost = cues[0];
            report.begin();
            tell(outermost, kind, value);
            report.value = outermost.value;
            report.vetoer = outermost.vetoer;
            for (int told = 1; told < MOST_CUES; told++) {
                if (waiting.size == 0 || report.cues >= MOST_CUES) break;
                Kind nextKind = waiting.firstKind();
                long nextValue = waiting.firstValue();
                waiting.dropFirst();
                if (nextKind != null) tell(outermost, nextKind, nextValue);
            }
            waiting.forget();
            return report.cues;
        }

        private void tell(Cue cue, Kind kind, long value) {
            cue.begin(value);
            report.addCue(cue.depth);
            for (int phase = BEFORE; phase <= AFTER; phase++) {
                if (phase == AT) acts.make(kind, cue.value);
                cue.phase = phase;
                // Those that come while the phase is told have greater numbers, and no turn in it.
                int comeBefore = house.come;
                for (Listener at = house.findFirst(phase); at != null && !report.isHushed(); at = at.next) {
                    if (at.number < comeBefore && at.hears(kind) && at.lets(cue.value)) tellListener(cue, at);
                    if (cue.isVetoed()) return;
                }
            }
        }

        private void tellListener(Cue cue, Listener listener) {
            Program program = listener.program;
            if (listener.once) house.letGo(listener);
            listener.timesTold++;
            report.listenersTold++;
            cue.v = cue.value;
            for (int at = 0; at < program.size; at++) {
                int outcome = doStep(cue, listener, program.ops[at], program.numbers[at]);
                if (outcome > GO_ON) {
                    report.addFailure(outcome, listener.number, at);
                    return;
                }
                if (outcome == VETOED) {
                    cue.vetoer = listener.number;
                    report.vetoes++;
                    return;
                }
                if (outcome == ENDED) break;
                if (outcome == PASS_OVER) at++;
            }
            cue.value = cue.v;
        }

        private int doStep(Cue cue, Listener listener, int op, int n) {
            switch (op) {
                case ADD:
                    cue.v += n;
                    return GO_ON;
                case SET:
                    cue.v = n;
                    return GO_ON;
                case VETO:
                    return cue.phase == BEFORE ? VETOED : LATE;
                case FAIL:
                    return n;
                case DIVIDE:
                    return divide(cue, n);
                case REMAINDER:
                    return takeRemainder(cue, n);
                case PASS_IF_BELOW:
                    return cue.v < n ? PASS_OVER : GO_ON;
                case END:
                    return ENDED;
                case LOG:
                    report.addLogged(cue.v);
                    return GO_ON;
                case COME_LIKE:
                    return house.seatLike(n);
                case SEND_AWAY:
                    return house.sendAway(n);
                case TELL_NOW:
                    return tellNow(cue, n);
                case TELL_LATER:
                    return tellLater(cue, n);
                case CLOSE_SCENE:
                    return closeScene(n);
                default:
                    return touchTray(cue, listener, op, n);
            }
        }

        private int divide(Cue cue, int n) {
            if (n == 0) return ZERO;
            cue.v /= n;
            return GO_ON;
        }

        private int takeRemainder(Cue cue, int n) {
            if (n == 0) return ZERO;
            cue.v %= n;
            return GO_ON;
        }

        private int tellNow(Cue cue, int n) {
            Kind kind = kinds.find(n);
            if (kind == null) return NULL;
            if (cue.depth >= MOST_DEEP) return DEEP;
            if (report.cues >= MOST_CUES) return MANY;
            Cue inner = cues[cue.depth];
            tell(inner, kind, cue.v);
            if (!inner.isVetoed()) cue.v = inner.value;
            return GO_ON;
        }

        private int tellLater(Cue cue, int n) {
            Kind kind = kinds.find(n);
            if (kind == null) return NULL;
            return waiting.add(kind, cue.v) ? GO_ON : ROOM;
        }

        private int closeScene(int n) {
            if (!house.isOpen(n)) return NULL;
            house.shut(n);
            return GO_ON;
        }

        private int touchTray(Cue cue, Listener listener, int op, int n) {
            if (op == CHOOSE_TRAY) return chooseTray(listener, n);
            Tray tray = findTray(trays, listener.trayNumber);
            if (tray == null) return NULL;
            if (op == LAY_TRAY) return tray.layInts(n);
            int fault = tray.faultAsInts(n);
            if (fault != GO_ON) return fault;
            if (op == READ_CELL) cue.v = tray.row[n];
            if (op == WRITE_CELL) tray.put(n, cue.v);
            return GO_ON;
        }

        private int chooseTray(Listener listener, int t) {
            if (findTray(trays, t) == null) return INDEX;
            listener.trayNumber = t;
            return GO_ON;
        }
    }
}
