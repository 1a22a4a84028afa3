/** Promises 14 send, 15 told, 16 value, 17 logged, 18 failure, 19 meter, 20 back: how one cue is told. */
public final class CuesTest extends Desks {
    private static final Check CHECK = new Check("CuesTest");

    public static void main(String[] args) {
        phasesAroundTheAct();
        arithmeticOfSteps();
        passingOverAndEnding();
        failuresLeaveTheValue();
        vetoes();
        lateVetoes();
        filtersSeeTheValueAsItIsThen();
        theLog();
        refusedSendsChangeNothing();
        metersMovedBack();
        fiftyActsAreKept();
        hushedAfterTwentyFourFailures();
        CHECK.end();
    }

    private static void due(String what, long got, long want) {
        CHECK.due(what, got, want);
    }

    private static void phasesAroundTheAct() {
        ShowDesk x = line(2);
        add(x, 0, AFTER, 9, 0, 1000, 8, 0);
        add(x, 0, AT, 9, 0, 100, 8, 0);
        add(x, 1, BEFORE, 9, 0, 10, 8, 0);
        due("send", x.send(1, 1), 1);
        due("logged before", x.logged(0), 11);
        due("logged at", x.logged(1), 111);
        due("logged after", x.logged(2), 1111);
        due("the act has the value of BEFORE", x.meter(1), 11);
        due("the kind above has no act", x.meter(0), 0);
        due("value", x.value(), 1111);
        due("a cue of the kind above", x.send(0, 1), 1);
        due("is not heard by those below", x.told(2), 2);
        due("its meter", x.meter(0), 1);
        due("meters add up", x.send(1, -100), 1);
        due("to", x.meter(1), 11 - 90);
    }

    private static long made(long v, int op, int n) {
        ShowDesk x = line(1);
        add(x, 0, AT, 0, op, n);
        x.send(0, v);
        return x.value();
    }

    private static int fault(long v, int op, int n) {
        ShowDesk x = line(1);
        add(x, 0, AT, 0, op, n);
        x.send(0, v);
        return x.failure(0, 0);
    }

    private static void arithmeticOfSteps() {
        due("add", made(5, 0, -8), -3);
        due("add wraps", made(Long.MAX_VALUE, 0, 1), Long.MIN_VALUE);
        due("set", made(5, 1, Integer.MIN_VALUE), Integer.MIN_VALUE);
        due("divide", made(-7, 4, 2), -3);
        due("divide by -1 wraps", made(Long.MIN_VALUE, 4, -1), Long.MIN_VALUE);
        due("divide by 0", fault(7, 4, 0), 5);
        due("remainder", made(-7, 5, 4), -3);
        due("remainder of -1", made(Long.MIN_VALUE, 5, -1), 0);
        due("remainder of 0", fault(7, 5, 0), 5);
        due("own failure 20", fault(7, 3, 20), 20);
        due("own failure 29", fault(7, 3, 29), 29);
        ShowDesk x = line(1);
        x.send(0, Long.MAX_VALUE);
        x.send(0, 1);
        due("meters wrap", x.meter(0), Long.MIN_VALUE);
    }

    private static void passingOverAndEnding() {
        for (int v = 4; v <= 6; v++) {
            ShowDesk x = line(1);
            add(x, 0, AT, 0, 6, 5, 0, 100, 0, 10);
            x.send(0, v);
            due("6 with " + v, x.value(), v < 5 ? v + 10 : v + 110);
        }
        ShowDesk x = line(1);
        add(x, 0, AT, 0, 0, 1, 7, 0, 0, 10, 3, 20);
        add(x, 0, AT, -1, 6, 100);
        x.send(0, 1);
        due("7 ends well", x.value(), 2);
        due("no failures", x.told(4), 0);
        x = line(1);
        add(x, 0, AT, 0, 6, 5, 7, 0, 0, 1, 6, 9, 6, 9, 3, 21);
        x.send(0, 4);
        due("a passed over 6 does nothing", x.failure(0, 0), 21);
        due("at its step", x.failure(0, 2), 5);
    }

    private static void failuresLeaveTheValue() {
        ShowDesk x = line(1);
        int first = add(x, 0, BEFORE, 3, 0, 1);
        int second = add(x, 0, BEFORE, 2, 0, 10, 8, 0, 3, 22, 8, 0);
        int third = add(x, 0, BEFORE, 1, 0, 100);
        x.send(0, 0);
        due("value", x.value(), 101);
        due("what it logged stays", x.logged(0), 11);
        due("it did no more", x.told(3), 1);
        due("failures", x.told(4), 1);
        due("what", x.failure(0, 0), 22);
        due("who", x.failure(0, 1), second);
        due("step", x.failure(0, 2), 2);
        due("failure 1", x.failure(1, 0), BAD);
        due("failure -1", x.failure(-1, 0), BAD);
        due("what 3", x.failure(0, 3), BAD);
        due("what -1", x.failure(0, -1), BAD);
        due("told", x.told(2), 3);
        due("each once", x.listener(first, 7) + x.listener(second, 7) + x.listener(third, 7), 3);
        x.leave(second);
        x.send(0, 0);
        due("the failures are those of the latest send", x.failure(0, 0), BAD);
        due("none", x.told(4), 0);
    }

    private static void vetoes() {
        ShowDesk x = line(2);
        add(x, 0, BEFORE, 3, 0, 1);
        int vetoer = add(x, 0, BEFORE, 2, 0, 10, 2, 0, 8, 0);
        add(x, 0, BEFORE, 1, 0, 100);
        add(x, 0, AT, 1, 0, 1000);
        add(x, 0, AFTER, 1, 0, 1000);
        due("send", x.send(1, 5), 1);
        due("vetoed", x.told(0), 1);
        due("told", x.told(2), 2);
        due("logged nothing", x.told(3), 0);
        due("no failure", x.told(4), 0);
        due("vetoes", x.told(5), 1);
        due("by", x.told(7), vetoer);
        due("value as it was then", x.value(), 6);
        due("no act", x.meter(1), 0);
        due("none to move back", x.count(5), 0);
        x.leave(vetoer);
        x.send(1, 5);
        due("not vetoed", x.told(0), 0);
        due("no vetoes", x.told(5), 0);
        due("by none", x.told(7), NO);
        due("value", x.value(), 2106);
        due("told 8", x.told(8), BAD);
        due("told -1", x.told(-1), BAD);
    }

    private static void lateVetoes() {
        for (int phase = AT; phase <= AFTER; phase++) {
            ShowDesk x = line(1);
            add(x, 0, phase, 0, 0, 1, 2, 0);
            add(x, 0, phase, -1, 0, 10);
            x.send(0, 0);
            due("late", x.failure(0, 0), 8);
            due("not vetoed", x.told(0), 0);
            due("no vetoes", x.told(5), 0);
            due("value", x.value(), 10);
        }
    }

    private static void filtersSeeTheValueAsItIsThen() {
        ShowDesk x = line(1);
        add(x, 0, BEFORE, 9, 1, 50);
        int old = add(x, 0, BEFORE, 8);
        int now = add(x, 0, AFTER, 7);
        x.filter(old, 1, 1);
        x.filter(now, 50, 50);
        x.send(0, 1);
        due("by the value ahead", x.listener(old, 7), 0);
        due("by the value then", x.listener(now, 7), 1);
        due("listeners told", x.told(2), 2);
    }

    private static void theLog() {
        ShowDesk x = line(1);
        for (int i = 0; i < 11; i++) add(x, 0, AT, -i, 8, 0, 0, 1, 8, 0, 0, 1, 8, 0, 0, 1, 8, 0, 0, 1, 8, 0, 8, 0);
        x.send(0, 1L << 40);
        due("counted", x.told(3), 66);
        due("first", x.logged(0), 1L << 40);
        due("last", x.logged(65), (1L << 40) + 44);
        due("past it", x.logged(66), 0);
        due("-1", x.logged(-1), 0);
        for (int i = 0; i < 11; i++) add(x, 0, AFTER, 0, 1, 7, 8, 0, 8, 0, 8, 0, 8, 0);
        x.send(0, 9);
        due("all are counted", x.told(3), 110);
        due("the first", x.logged(0), 9);
        due("number 99", x.logged(99), 7);
        due("number 100", x.logged(100), 0);
        due("number 109", x.logged(109), 0);
        for (int l = 0; l < 22; l++) x.leave(l);
        x.send(0, 3);
        due("of the latest send", x.told(3), 0);
        due("none", x.logged(0), 0);
        due("nor the next", x.logged(1), 0);
    }

    private static void refusedSendsChangeNothing() {
        ShowDesk x = line(1);
        add(x, 0, BEFORE, 0, 8, 0, 3, 25);
        x.send(0, 7);
        due("kind 1", x.send(1, 9), BAD);
        due("kind -1", x.send(-1, 9), BAD);
        due("kind NONE", x.send(NO, 9), BAD);
        due("value", x.value(), 7);
        due("cues", x.told(1), 1);
        due("most at once", x.told(6), 1);
        due("log", x.logged(0), 7);
        due("failure", x.failure(0, 0), 25);
        due("meter of none", x.meter(1), 0);
        due("meter of -1", x.meter(-1), 0);
    }

    private static void metersMovedBack() {
        ShowDesk x = line(2);
        x.send(0, 5);
        x.send(1, 70);
        x.send(0, 900);
        due("-1", x.back(-1), BAD);
        due("51", x.back(51), BAD);
        due("none", x.back(0), 0);
        due("two", x.back(2), 2);
        due("meter 0", x.meter(0), 5);
        due("meter 1", x.meter(1), 0);
        due("left", x.count(5), 1);
        x.send(1, Long.MIN_VALUE);
        due("more than there are", x.back(50), 2);
        due("meter 0 then", x.meter(0), 0);
        due("meter 1 then", x.meter(1), 0);
        due("none left", x.back(1), 0);
        due("the latest send stays told", x.value(), Long.MIN_VALUE);
    }

    private static void fiftyActsAreKept() {
        ShowDesk x = line(1);
        for (int i = 0; i < 57; i++) x.send(0, 1L << (i % 60));
        due("kept", x.count(5), 50);
        due("three", x.back(3), 3);
        due("the latest ones", x.meter(0), (1L << 54) - 1);
        x.send(0, 1L << 58);
        due("one more", x.count(5), 48);
        due("all", x.back(50), 48);
        due("the oldest ones stay", x.meter(0), (1L << 7) - 1);
        due("no more", x.count(5), 0);
    }

    private static void hushedAfterTwentyFourFailures() {
        ShowDesk x = line(1);
        int last = 0;
        for (int i = 0; i < 30; i++) last = add(x, 0, BEFORE, -i, 3, 20 + i % 10);
        int after = add(x, 0, AFTER, 0, 0, 1);
        due("send", x.send(0, 4), 1);
        due("failures", x.told(4), 24);
        due("told", x.told(2), 24);
        due("the last failure", x.failure(23, 1), 23);
        due("what it is", x.failure(23, 0), 23);
        due("no more", x.failure(24, 0), BAD);
        due("passed by", x.listener(last, 7) + x.listener(after, 7), 0);
        due("the act is done", x.meter(0), 4);
        due("value", x.value(), 4);
        for (int l = 1; l <= 10; l++) x.leave(l);
        x.send(0, 4);
        due("the next send is told anew", x.told(4), 20);
        due("to the end", x.value(), 5);
    }
}
