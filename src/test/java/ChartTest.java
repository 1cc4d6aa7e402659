/** Promises 2 to 7 and 12 to 14: the chart, while it does not RUN. */
public final class ChartTest {
    private static final Class<IllegalStateException> STATE = IllegalStateException.class;
    private static final Class<IndexOutOfBoundsException> INDEX = IndexOutOfBoundsException.class;
    private static final Class<IllegalArgumentException> ARGUMENT = IllegalArgumentException.class;

    private static final Check check = new Check();

    public static void main(String[] args) {
        addState();
        addStateWrongly();
        setFirst();
        setFirstWrongly();
        setDoing();
        setDoingWrongly();
        addTransition();
        addTransitionWrongly();
        setGuard();
        setGuardWrongly();
        setAction();
        setActionWrongly();
        ofState();
        whileItRuns();
        check.end();
    }

    /** 0 { 1 PLAIN { 4, 5 END, 6 HISTORY }, 2 BROAD { 7 }, 3 DEEP }. */
    private static PuppetTheatre small() {
        PuppetTheatre x = new PuppetTheatre();
        x.addState(0, 0);
        x.addState(0, 1);
        x.addState(0, 4);
        x.addState(1, 0);
        x.addState(1, 2);
        x.addState(1, 3);
        x.addState(2, 0);
        return x;
    }

    private static void addState() {
        PuppetTheatre x = new PuppetTheatre();
        for (int k = 1; k < 20; k++) {
            check.due("addState(0, " + k % 5 + ")", x.addState(0, k % 5), k);
            check.due("states()", x.states(), k + 1);
            check.due("its kind", x.ofState(k, 0), k % 5);
        }
        check.dueThrow(x, "addState of the 21st", STATE, () -> x.addState(0, 0));
        check.dueThrow(x, "addState of the 21st, all wrong", STATE, () -> x.addState(-1, 9));
        PuppetTheatre y = small();
        check.due("addState into a BROAD one", y.addState(2, 1), 8);
        check.due("addState of a MARK into a BROAD one", y.addState(2, 3), 9);
        check.due("addState of an END into a PLAIN one", y.addState(4, 2), 10);
    }

    private static void addStateWrongly() {
        PuppetTheatre x = small();
        int[] none = {-1, 8, 20, Integer.MAX_VALUE, Integer.MIN_VALUE};
        for (int parent : none) {
            check.dueThrow(x, "addState(" + parent + ", 0)", INDEX, () -> x.addState(parent, 0));
            check.dueThrow(x, "addState(" + parent + ", 7)", INDEX, () -> x.addState(parent, 7));
        }
        check.dueThrow(x, "addState(0, -1)", ARGUMENT, () -> x.addState(0, -1));
        check.dueThrow(x, "addState(0, 5)", ARGUMENT, () -> x.addState(0, 5));
        check.dueThrow(x, "addState into a DEEP one", ARGUMENT, () -> x.addState(3, 0));
        check.dueThrow(x, "addState into an END", ARGUMENT, () -> x.addState(5, 0));
        check.dueThrow(x, "addState into a HISTORY", ARGUMENT, () -> x.addState(6, 0));
        check.dueThrow(x, "addState of an END into a BROAD one", ARGUMENT, () -> x.addState(2, 2));
        check.due("states()", x.states(), 8);
    }

    private static void setFirst() {
        PuppetTheatre x = small();
        check.due("setFirst(0, 2)", x.setFirst(0, 2), 1);
        check.due("setFirst(0, 2)", x.setFirst(0, 2), 2);
        check.due("FIRST", x.ofState(0, 2), 2);
        check.due("setFirst to an END", x.setFirst(1, 5), 4);
        check.due("FIRST", x.ofState(1, 2), 5);
        check.due("addState(1, 0)", x.addState(1, 0), 8);
        check.due("FIRST stays", x.ofState(1, 2), 5);
        x.start();
        check.due("the set one is FILLED", x.active(), 0b10000101);
        x.stop();
        x.setFirst(0, 1);
        x.start();
        check.due("the END is FILLED", x.active(), 0b100011);
    }

    private static void setFirstWrongly() {
        PuppetTheatre x = small();
        check.dueThrow(x, "setFirst(8, 4)", INDEX, () -> x.setFirst(8, 4));
        check.dueThrow(x, "setFirst(-1, 4)", INDEX, () -> x.setFirst(-1, 4));
        check.dueThrow(x, "setFirst(1, 8)", INDEX, () -> x.setFirst(1, 8));
        check.dueThrow(x, "setFirst(1, -1)", INDEX, () -> x.setFirst(1, -1));
        check.dueThrow(x, "setFirst(2, 8): no STATE is named first", INDEX, () -> x.setFirst(2, 8));
        check.dueThrow(x, "setFirst of a BROAD one", ARGUMENT, () -> x.setFirst(2, 7));
        check.dueThrow(x, "setFirst of an END", ARGUMENT, () -> x.setFirst(5, 4));
        check.dueThrow(x, "setFirst to a MARK", ARGUMENT, () -> x.setFirst(1, 6));
        check.dueThrow(x, "setFirst to one beneath", ARGUMENT, () -> x.setFirst(0, 4));
        check.dueThrow(x, "setFirst to itself", ARGUMENT, () -> x.setFirst(1, 1));
        check.dueThrow(x, "setFirst to its PARENT", ARGUMENT, () -> x.setFirst(1, 0));
    }

    private static void setDoing() {
        PuppetTheatre x = small();
        check.due("entering, before", x.setDoing(1, false, 1, 0, 7), 0);
        check.due("leaving, before", x.setDoing(1, true, 2, 3, -99), 0);
        check.due("entering, behind", x.setDoing(1, false, 3, 9, 1000), 1);
        check.due("leaving, behind", x.setDoing(1, true, 0, 77, 1000), 2);
        check.due("leaving, nothing", x.setDoing(1, true, 2, 0, 99), 0);
        check.due("entering, behind", x.setDoing(1, false, 1, 2, 99), 3);
        check.due("the ROOT", x.setDoing(0, false, 1, 3, -99), 0);
        check.due("an END", x.setDoing(5, false, 1, 3, 5), 0);
        x.setFirst(1, 5);
        x.start();
        check.due("SET 2 99", x.variable(2), 99);
        check.due("ROOT's comes ahead of the END's", x.variable(3), 5);
        check.due("nothing was left", x.variable(0), 0);
    }

    private static void setDoingWrongly() {
        PuppetTheatre x = small();
        check.dueThrow(x, "no STATE", INDEX, () -> x.setDoing(8, true, 9, 0, 0));
        check.dueThrow(x, "no STATE", INDEX, () -> x.setDoing(-1, true, 0, 0, 0));
        check.dueThrow(x, "a HISTORY", ARGUMENT, () -> x.setDoing(6, false, 0, 0, 0));
        check.dueThrow(x, "a DEEP one", ARGUMENT, () -> x.setDoing(3, true, 1, 0, 0));
        check.dueThrow(x, "code -1", ARGUMENT, () -> x.setDoing(1, true, -1, 0, 0));
        check.dueThrow(x, "code 4", ARGUMENT, () -> x.setDoing(1, true, 4, 0, 0));
        for (int code = 1; code <= 2; code++) {
            int c = code;
            check.dueThrow(x, "variable -1", ARGUMENT, () -> x.setDoing(1, true, c, -1, 0));
            check.dueThrow(x, "variable 4", ARGUMENT, () -> x.setDoing(1, true, c, 4, 0));
            check.dueThrow(x, "n -100", ARGUMENT, () -> x.setDoing(1, true, c, 0, -100));
            check.dueThrow(x, "n 100", ARGUMENT, () -> x.setDoing(1, true, c, 0, 100));
        }
        check.dueThrow(x, "event -1", ARGUMENT, () -> x.setDoing(1, true, 3, -1, 0));
        check.dueThrow(x, "event 10", ARGUMENT, () -> x.setDoing(1, true, 3, 10, 0));
        check.due("nothing was set", x.setDoing(1, true, 0, 0, 0), 0);
    }

    private static void addTransition() {
        PuppetTheatre x = small();
        check.due("of the ROOT to none", x.addTransition(0, 0, 9, -1), 0);
        check.due("EVENT 0", x.addTransition(1, 0, 0, 2), 1);
        check.due("AFTER 1", x.addTransition(1, 1, 1, 1), 2);
        check.due("AFTER 50", x.addTransition(1, 1, 50, 4), 3);
        check.due("ENDED, n not looked at", x.addTransition(1, 2, -7, 3), 4);
        check.due("ALWAYS, n not looked at", x.addTransition(2, 3, 99, -1), 5);
        check.due("to an END", x.addTransition(4, 0, 5, 5), 6);
        check.due("to a MARK", x.addTransition(4, 0, 5, 6), 7);
        check.due("transitions()", x.transitions(), 8);
        for (int t = 8; t < 30; t++) {
            check.due("the next", x.addTransition(4, 0, 5, 7), t);
        }
        check.due("transitions()", x.transitions(), 30);
        check.dueThrow(x, "the 31st", STATE, () -> x.addTransition(4, 0, 5, 7));
        check.dueThrow(x, "the 31st, all wrong", STATE, () -> x.addTransition(44, 9, 55, 77));
    }

    private static void addTransitionWrongly() {
        PuppetTheatre x = small();
        check.dueThrow(x, "from 8", INDEX, () -> x.addTransition(8, 9, 0, 1));
        check.dueThrow(x, "from -1", INDEX, () -> x.addTransition(-1, 0, 0, 1));
        check.dueThrow(x, "to 8", INDEX, () -> x.addTransition(5, 0, 0, 8));
        check.dueThrow(x, "to -2", INDEX, () -> x.addTransition(1, 9, 0, -2));
        check.dueThrow(x, "from a DEEP one", ARGUMENT, () -> x.addTransition(3, 0, 0, 1));
        check.dueThrow(x, "from an END", ARGUMENT, () -> x.addTransition(5, 0, 0, 1));
        check.dueThrow(x, "from a HISTORY", ARGUMENT, () -> x.addTransition(6, 0, 0, -1));
        check.dueThrow(x, "trigger -1", ARGUMENT, () -> x.addTransition(1, -1, 1, 1));
        check.dueThrow(x, "trigger 4", ARGUMENT, () -> x.addTransition(1, 4, 1, 1));
        check.dueThrow(x, "EVENT -1", ARGUMENT, () -> x.addTransition(1, 0, -1, 1));
        check.dueThrow(x, "EVENT 10", ARGUMENT, () -> x.addTransition(1, 0, 10, 1));
        check.dueThrow(x, "AFTER 0", ARGUMENT, () -> x.addTransition(1, 1, 0, 1));
        check.dueThrow(x, "AFTER 51", ARGUMENT, () -> x.addTransition(1, 1, 51, 1));
        check.dueThrow(x, "to the ROOT", ARGUMENT, () -> x.addTransition(1, 0, 0, 0));
        check.dueThrow(x, "no SCOPE", ARGUMENT, () -> x.addTransition(0, 0, 0, 1));
        check.due("transitions()", x.transitions(), 0);
    }

    private static void setGuard() {
        PuppetTheatre x = small();
        x.addTransition(1, 0, 0, -1);
        check.due("how before", x.setGuard(0, 1, 0, 1), 0);
        check.due("how before", x.setGuard(0, 2, 3, 99), 1);
        check.due("how before", x.setGuard(0, 3, 3, -99), 2);
        check.due("how before", x.setGuard(0, 0, 9, 999), 3);
        check.due("how before", x.setGuard(0, 0, -9, -999), 0);
        for (int how = 0; how <= 3; how++) {
            for (int n = 4; n <= 6; n++) {
                x.setDoing(0, false, 1, 2, 5);
                x.setGuard(0, how, 2, n);
                x.start();
                boolean holds = how == 0 || how == 1 && 5 < n || how == 2 && 5 == n || how == 3 && 5 > n;
                check.due("5, how " + how + ", " + n, x.send(0), holds ? 1 : 0);
                x.stop();
            }
        }
    }

    private static void setGuardWrongly() {
        PuppetTheatre x = small();
        x.addTransition(1, 0, 0, -1);
        check.dueThrow(x, "TRANSITION 1", INDEX, () -> x.setGuard(1, 9, 0, 0));
        check.dueThrow(x, "TRANSITION -1", INDEX, () -> x.setGuard(-1, 0, 0, 0));
        check.dueThrow(x, "how -1", ARGUMENT, () -> x.setGuard(0, -1, 0, 0));
        check.dueThrow(x, "how 4", ARGUMENT, () -> x.setGuard(0, 4, 0, 0));
        check.dueThrow(x, "variable -1", ARGUMENT, () -> x.setGuard(0, 1, -1, 0));
        check.dueThrow(x, "variable 4", ARGUMENT, () -> x.setGuard(0, 2, 4, 0));
        check.dueThrow(x, "n -100", ARGUMENT, () -> x.setGuard(0, 3, 0, -100));
        check.dueThrow(x, "n 100", ARGUMENT, () -> x.setGuard(0, 1, 0, 100));
        check.due("nothing was set", x.setGuard(0, 0, 0, 0), 0);
    }

    private static void setAction() {
        PuppetTheatre x = small();
        x.addTransition(0, 0, 0, -1);
        check.due("code before", x.setAction(0, 1, 3, 99), 0);
        check.due("code before", x.setAction(0, 3, 9, 999), 1);
        check.due("code before", x.setAction(0, 0, 99, 999), 3);
        check.due("code before", x.setAction(0, 2, 0, -60), 0);
        x.start();
        check.due("send(0)", x.send(0), 1);
        check.due("ADD -60", x.variable(0), -60);
        x.send(0);
        check.due("kept from -99", x.variable(0), -99);
        x.stop();
        check.due("code before", x.setAction(0, 2, 0, 99), 2);
        x.start();
        x.send(0);
        x.send(0);
        check.due("kept to 99", x.variable(0), 99);
        x.stop();
        check.due("code before", x.setAction(0, 1, 0, -99), 2);
        x.start();
        x.send(0);
        check.due("SET -99", x.variable(0), -99);
    }

    private static void setActionWrongly() {
        PuppetTheatre x = small();
        x.addTransition(0, 0, 0, -1);
        check.dueThrow(x, "TRANSITION 1", INDEX, () -> x.setAction(1, 9, 0, 0));
        check.dueThrow(x, "TRANSITION -1", INDEX, () -> x.setAction(-1, 0, 0, 0));
        check.dueThrow(x, "code -1", ARGUMENT, () -> x.setAction(0, -1, 0, 0));
        check.dueThrow(x, "code 4", ARGUMENT, () -> x.setAction(0, 4, 0, 0));
        check.dueThrow(x, "variable -1", ARGUMENT, () -> x.setAction(0, 1, -1, 0));
        check.dueThrow(x, "variable 4", ARGUMENT, () -> x.setAction(0, 2, 4, 0));
        check.dueThrow(x, "n -100", ARGUMENT, () -> x.setAction(0, 1, 0, -100));
        check.dueThrow(x, "n 100", ARGUMENT, () -> x.setAction(0, 2, 0, 100));
        check.dueThrow(x, "event -1", ARGUMENT, () -> x.setAction(0, 3, -1, 0));
        check.dueThrow(x, "event 10", ARGUMENT, () -> x.setAction(0, 3, 10, 0));
        check.due("nothing was set", x.setAction(0, 0, 0, 0), 0);
    }

    private static void ofState() {
        PuppetTheatre x = small();
        int[][] due = {{0, -1, 1, 2}, {0, 0, 4, 2}, {1, 0, -1, 1}, {4, 0, -1, 0}, {0, 1, -1, 0},
            {2, 1, -1, 0}, {3, 1, -1, 0}, {0, 2, -1, 0}};
        for (int s = 0; s < due.length; s++) {
            for (int what = 0; what < 4; what++) {
                check.due("ofState(" + s + ", " + what + ")", x.ofState(s, what), due[s][what]);
            }
        }
        check.dueThrow(x, "ofState(8, 9)", INDEX, () -> x.ofState(8, 9));
        check.dueThrow(x, "ofState(-1, 0)", INDEX, () -> x.ofState(-1, 0));
        check.dueThrow(x, "ofState(0, 4)", ARGUMENT, () -> x.ofState(0, 4));
        check.dueThrow(x, "ofState(0, -1)", ARGUMENT, () -> x.ofState(0, -1));
    }

    private static void whileItRuns() {
        PuppetTheatre x = small();
        x.addTransition(1, 0, 0, -1);
        x.start();
        check.dueThrow(x, "addState", STATE, () -> x.addState(-1, 9));
        check.dueThrow(x, "setFirst", STATE, () -> x.setFirst(-1, 9));
        check.dueThrow(x, "setDoing", STATE, () -> x.setDoing(-1, true, 9, 9, 9));
        check.dueThrow(x, "addTransition", STATE, () -> x.addTransition(-1, 9, 9, 9));
        check.dueThrow(x, "setGuard", STATE, () -> x.setGuard(-1, 9, 9, 9));
        check.dueThrow(x, "setAction", STATE, () -> x.setAction(-1, 9, 9, 9));
        check.due("states()", x.states(), 8);
        check.due("transitions()", x.transitions(), 1);
        x.stop();
        check.due("addState", x.addState(0, 0), 8);
        check.due("addTransition", x.addTransition(8, 0, 0, 1), 1);
    }
}
