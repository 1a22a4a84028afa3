import java.util.ArrayDeque;
import java.util.ArrayList;
import java.util.Comparator;
import java.util.List;

/**
 * The document once more, written the other way round: it copies and sorts the listeners of each phase and
 * throws failures and vetoes. RandomRunsTest holds ShowDesk against it.
 */
final class PlainDesk {
    private static final int BAD = -1, STATE = -2, FULL = -3, NONE = -4;

    private static final class Failure extends RuntimeException {
        private static final long serialVersionUID = 1L;
        final int what;

        Failure(int what) {
            super(null, null, false, false);
            this.what = what;
        }
    }

    private static final class Veto extends RuntimeException {
        private static final long serialVersionUID = 1L;

        Veto() {
            super(null, null, false, false);
        }
    }

    private static final class One {
        int number, kind, phase, rank, scene, told, tray;
        long low = Long.MIN_VALUE, high = Long.MAX_VALUE;
        boolean once, there = true;
        List<int[]> program = new ArrayList<>();
    }

    private static final class Told {
        int kind;
        long value;
        int vetoer = NONE;
    }

    private final List<Integer> aboves = new ArrayList<>();
    private final List<Long> meters = new ArrayList<>();
    private final List<Boolean> scenes = new ArrayList<>();
    private final List<One> listeners = new ArrayList<>();
    private final Object[] trays = new Object[8];
    private final List<long[]> acts = new ArrayList<>();
    private final ArrayDeque<long[]> later = new ArrayDeque<>();
    private final List<Long> log = new ArrayList<>();
    private final List<int[]> failures = new ArrayList<>();
    private Told first = new Told();
    private int cues, tellings, vetoes, open, deepest;

    private boolean noKind(int k) {
        return k < 0 || k >= aboves.size();
    }

    private One one(int l) {
        return l < 0 || l >= listeners.size() ? null : listeners.get(l);
    }

    private int distance(int kind, int of) {
        int steps = 0;
        for (int k = kind; k != NONE; k = aboves.get(k)) {
            if (k == of) return steps;
            steps++;
        }
        return -1;
    }

    int kind(int above) {
        if (above != NONE && noKind(above)) return BAD;
        int many = 0;
        for (int k = above; k != NONE; k = aboves.get(k)) many++;
        if (many > 10) return STATE;
        if (aboves.size() == 40) return FULL;
        aboves.add(above);
        meters.add(0L);
        return aboves.size() - 1;
    }

    int scene() {
        if (scenes.size() == 30) return FULL;
        scenes.add(true);
        return scenes.size() - 1;
    }

    int close(int scene) {
        if (scene < 0 || scene >= scenes.size()) return BAD;
        if (!scenes.get(scene)) return STATE;
        scenes.set(scene, false);
        int gone = 0;
        for (One l : listeners) {
            if (l.there && l.scene == scene) {
                l.there = false;
                gone++;
            }
        }
        return gone;
    }

    int listen(int kind, int phase, int rank, int scene) {
        if (noKind(kind) || phase < 0 || phase > 2) return BAD;
        if (scene != NONE && (scene < 0 || scene >= scenes.size())) return BAD;
        if (scene != NONE && !scenes.get(scene)) return STATE;
        if (listeners.size() == 200) return FULL;
        One l = new One();
        l.number = listeners.size();
        l.kind = kind;
        l.phase = phase;
        l.rank = rank;
        l.scene = scene;
        listeners.add(l);
        return l.number;
    }

    int filter(int listener, long low, long high) {
        One l = one(listener);
        if (l == null || high < low) return BAD;
        if (!l.there) return STATE;
        l.low = low;
        l.high = high;
        return 1;
    }

    int once(int listener, boolean on) {
        One l = one(listener);
        if (l == null) return BAD;
        if (!l.there) return STATE;
        boolean was = l.once;
        l.once = on;
        return was ? 1 : 0;
    }

    int step(int listener, int op, int n) {
        One l = one(listener);
        if (l == null || op < 0 || op > 17 || op == 3 && (n < 20 || n > 29)) return BAD;
        if (!l.there) return STATE;
        if (l.program.size() == 10) return FULL;
        l.program.add(new int[] {op, n});
        return l.program.size();
    }

    int leave(int listener) {
        One l = one(listener);
        if (l == null) return BAD;
        if (!l.there) return STATE;
        l.there = false;
        return 1;
    }

    int tray(int t, int lane, int n) {
        if (t < 0 || t > 7 || lane < 0 || lane > 2 || n > 16) return BAD;
        if (n < 0) return -14;
        trays[t] = lane == 0 ? new byte[n] : lane == 1 ? (Object) new int[n] : new long[n];
        return n;
    }

    int lay(int t, int i, long v) {
        if (t < 0 || t > 7) return BAD;
        if (trays[t] == null) return -11;
        if (i < 0 || i >= cells(t)) return -12;
        if (trays[t] instanceof byte[] bytes) bytes[i] = (byte) v;
        if (trays[t] instanceof int[] ints) ints[i] = (int) v;
        if (trays[t] instanceof long[] longs) longs[i] = v;
        return 1;
    }

    long cell(int t, int i) {
        if (t < 0 || t > 7 || trays[t] == null || i < 0 || i >= cells(t)) return 0;
        return java.lang.reflect.Array.getLong(trays[t], i);
    }

    int cells(int t) {
        if (t < 0 || t > 7) return BAD;
        return trays[t] == null ? NONE : java.lang.reflect.Array.getLength(trays[t]);
    }

    int send(int kind, long v) {
        if (noKind(kind)) return BAD;
        cues = tellings = vetoes = deepest = 0;
        log.clear();
        failures.clear();
        first = tell(kind, v);
        while (!later.isEmpty() && cues < 60) {
            long[] next = later.removeFirst();
            tell((int) next[0], next[1]);
        }
        later.clear();
        return cues;
    }

    private Told tell(int kind, long v) {
        Told cue = new Told();
        cue.kind = kind;
        cue.value = v;
        cues++;
        open++;
        deepest = Math.max(deepest, open);
        phase(cue, 0);
        if (cue.vetoer == NONE) {
            meters.set(kind, meters.get(kind) + cue.value);
            acts.add(new long[] {kind, cue.value});
            if (acts.size() > 50) acts.remove(0);
            phase(cue, 1);
            phase(cue, 2);
        }
        open--;
        return cue;
    }

    private List<One> turns(int kind, int phase) {
        List<One> turns = new ArrayList<>();
        for (One l : listeners) {
            if (l.there && l.phase == phase && distance(kind, l.kind) >= 0) turns.add(l);
        }
        turns.sort(Comparator.comparingLong((One l) -> -(long) l.rank)
            .thenComparingInt(l -> distance(kind, l.kind)).thenComparingInt(l -> l.number));
        return turns;
    }

    private void phase(Told cue, int phase) {
        for (One l : turns(cue.kind, phase)) {
            if (!l.there || cue.value < l.low || cue.value > l.high || failures.size() >= 24) continue;
            if (l.once) l.there = false;
            l.told++;
            tellings++;
            int[] at = {0};
            try {
                cue.value = run(l, cue.value, at);
            } catch (Failure failure) {
                failures.add(new int[] {failure.what, l.number, at[0]});
            } catch (Veto veto) {
                vetoes++;
                cue.vetoer = l.number;
                return;
            }
        }
    }

    private long run(One l, long v, int[] at) {
        for (; at[0] < l.program.size(); at[0]++) {
            int op = l.program.get(at[0])[0];
            int n = l.program.get(at[0])[1];
            if (op == 7) return v;
            if (op == 6) {
                if (v < n) at[0]++;
            } else if (op == 2) {
                need(l.phase == 0, 8);
                throw new Veto();
            } else {
                v = op <= 8 ? sum(op, n, v) : op <= 13 ? order(op, n, v) : touch(l, op, n, v);
            }
        }
        return v;
    }

    private static void need(boolean well, int failure) {
        if (!well) throw new Failure(failure);
    }

    private long sum(int op, int n, long v) {
        if (op == 3) throw new Failure(n);
        if (op == 8) log.add(v);
        if (op == 4 || op == 5) need(n != 0, 5);
        return op == 0 ? v + n : op == 1 ? n : op == 4 ? v / n : op == 5 ? v % n : v;
    }

    private long order(int op, int n, long v) {
        One l = one(n);
        if (op == 9) {
            need(l != null && (l.scene == NONE || scenes.get(l.scene)), 1);
            need(listeners.size() < 200, 6);
            One like = one(listen(l.kind, l.phase, l.rank, l.scene));
            like.low = l.low;
            like.high = l.high;
            like.once = l.once;
            like.program.addAll(l.program);
        } else if (op == 10) {
            need(l != null && l.there, 1);
            l.there = false;
        } else if (op == 11) {
            need(!noKind(n), 1);
            need(open < 12, 7);
            need(cues < 60, 9);
            Told within = tell(n, v);
            return within.vetoer == NONE ? within.value : v;
        } else if (op == 12) {
            need(!noKind(n), 1);
            need(later.size() < 40, 6);
            later.addLast(new long[] {n, v});
        } else {
            need(close(n) >= 0, 1);
        }
        return v;
    }

    private long touch(One l, int op, int n, long v) {
        if (op == 16) {
            need(n >= 0 && n <= 7, 2);
            l.tray = n;
            return v;
        }
        if (op == 17) {
            need(n >= 0, 4);
            need(n <= 16, 6);
            trays[l.tray] = new int[n];
            return v;
        }
        need(trays[l.tray] != null, 1);
        need(trays[l.tray] instanceof int[], 3);
        int[] ints = (int[]) trays[l.tray];
        need(n >= 0 && n < ints.length, 2);
        if (op == 14) return ints[n];
        ints[n] = (int) v;
        return v;
    }

    int told(int what) {
        if (what < 0 || what > 7) return BAD;
        return new int[] {first.vetoer == NONE ? 0 : 1, cues, tellings, log.size(), failures.size(), vetoes, deepest,
            first.vetoer}[what];
    }

    long value() {
        return first.value;
    }

    long logged(int i) {
        return i < 0 || i >= 100 || i >= log.size() ? 0 : log.get(i);
    }

    int failure(int i, int what) {
        return i < 0 || i >= failures.size() || what < 0 || what > 2 ? BAD : failures.get(i)[what];
    }

    long meter(int kind) {
        return noKind(kind) ? 0 : meters.get(kind);
    }

    int back(int n) {
        if (n < 0 || n > 50) return BAD;
        int moved = 0;
        while (moved < n && !acts.isEmpty()) {
            long[] act = acts.remove(acts.size() - 1);
            meters.set((int) act[0], meters.get((int) act[0]) - act[1]);
            moved++;
        }
        return moved;
    }

    int listener(int number, int what) {
        One l = one(number);
        if (l == null || what < 0 || what > 8) return BAD;
        return new int[] {l.there ? 1 : 0, l.kind, l.phase, l.rank, l.scene, l.program.size(), l.once ? 1 : 0, l.told,
            l.tray}[what];
    }

    int turn(int kind, int phase, int i) {
        if (noKind(kind) || phase < 0 || phase > 2) return BAD;
        List<One> turns = turns(kind, phase);
        return i < 0 || i >= turns.size() ? NONE : turns.get(i).number;
    }

    int under(int kind, int of) {
        if (noKind(kind) || noKind(of)) return BAD;
        return distance(kind, of) >= 0 ? 1 : 0;
    }

    int count(int what) {
        if (what < 0 || what > 5) return BAD;
        int there = 0;
        for (One l : listeners) there += l.there ? 1 : 0;
        int openScenes = 0;
        for (boolean isOpen : scenes) openScenes += isOpen ? 1 : 0;
        return new int[] {aboves.size(), scenes.size(), openScenes, listeners.size(), there, acts.size()}[what];
    }
}
