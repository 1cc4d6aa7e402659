/** Promises 1 to 7 and 12 to 14: the chart. What is refused stands in RefusalTest. */
public final class ChartTest {
    private static final int LEAST = Integer.MIN_VALUE;
    private static final int MOST = Integer.MAX_VALUE;

    private static final Check check = new Check();

    public static void main(String[] args) {
        newObject();
        addState();
        addStateBehindStop();
        setFirst();
        setDoing();
        setDoingWhatIsNotLookedAt();
        addTransition();
        addTransitionBehindStop();
        setGuard();
        setGuardAnew();
        setAction();
        setActionWhatIsNotLookedAt();
        states();
        transitions();
        ofState();
        check.end();
    }

    private static int set(int... states) {
        return Check.set(states);
    }

    /** 0 { 1 PLAIN { 4, 5 END, 6 HISTORY }, 2 BROAD { 7 }, 3 DEEP }. */
    private static PuppetTheatre small() {
        return Check.chart(0, 0, 0, 1, 0, 4, 1, 0, 1, 2, 1, 3, 2, 0);
    }

    private static void newObject() {
        // Promise 1: "Creates an engine with the ROOT, that does not RUN."
        PuppetTheatre x = new PuppetTheatre();
        check.due("states()", x.states(), 1);
        check.due("transitions()", x.transitions(), 0);
        check.due("isRunning()", x.isRunning(), false);
        int[] due = {0, -1, -1, 0};
        for (int what = 0; what < 4; what++) {
            check.due("ofState(0, " + what + ")", x.ofState(0, what), due[what]);
        }
        check.due("active()", x.active(), 0);
        check.due("isOver()", x.isOver(), false);
        check.due("isEnded(0)", x.isEnded(0), false);
        check.due("ageOf(0)", x.ageOf(0), -1);
        for (int v = 0; v < 4; v++) {
            check.due("variable(" + v + ")", x.variable(v), 0);
        }
        check.due("clock()", x.clock(), 0);
        check.due("covered()", x.covered(), 0);
        check.due("lost()", x.lost(), 0);
        check.due("restless()", x.restless(), 0);
        check.dueRow(x);
        check.due("looked()", x.looked(), 0);
        check.due("meanAge()", x.meanAge(), 0.0);
        PuppetTheatre y = new PuppetTheatre();
        x.addState(0, 0);
        x.start();
        check.due("another one has its own STATES", y.states(), 1);
        check.due("and does not RUN", y.isRunning(), false);
    }

    private static void addState() {
        // Promise 2: "Adds a STATE."
        // Promise 2: "Returns its number."
        // Promise 2: "its PARENT, PLAIN or BROAD"
        for (int parent = 0; parent < 2; parent++) {
            PuppetTheatre x = Check.chart(0, 1);
            int number = 2;
            for (int kind = 0; kind <= 4; kind++) {
                if (parent == 0 || kind != 2) {
                    check.due("addState(" + parent + ", " + kind + ")", x.addState(parent, kind), number);
                    check.due("its kind", x.ofState(number, 0), kind);
                    check.due("its PARENT", x.ofState(number, 1), parent);
                    number++;
                }
            }
            check.due("states()", x.states(), number);
        }
        // Promise 2: "or there are 20"
        PuppetTheatre full = Check.chart();
        for (int k = 1; k < 20; k++) {
            check.due("addState(0, " + k % 5 + ")", full.addState(0, k % 5), k);
            check.due("states()", full.states(), k + 1);
        }
        check.dueThrow("the 21st", IllegalStateException.class, () -> full.addState(0, 0));
        check.due("states()", full.states(), 20);
        // Promise 2: "or an END is to be in a BROAD one"
        PuppetTheatre y = small();
        check.due("an END in a PLAIN LEAF that is in a BROAD one", y.addState(7, 2), 8);
        check.dueThrow("an END in a BROAD one", IllegalArgumentException.class, () -> y.addState(2, 2));
        check.due("a BROAD one in a BROAD one", y.addState(2, 1), 9);
        check.due("a BROAD one in a BROAD LEAF", y.addState(9, 1), 10);
    }

    private static void addStateBehindStop() {
        // Promise 2: "if it RUNS"
        PuppetTheatre x = Check.chart(0, 0);
        x.start();
        check.dueThrow("as it RUNS", IllegalStateException.class, () -> x.addState(0, 0));
        x.stop();
        check.due("as it does not RUN any more", x.addState(1, 0), 2);
        x.start();
        check.due("1 is no LEAF any more", x.active(), set(0, 1, 2));
    }

    private static void setFirst() {
        // Promise 3: "Sets FIRST of a STATE."
        // Promise 3: "Returns FIRST before."
        PuppetTheatre x = small();
        check.due("setFirst(0, 2)", x.setFirst(0, 2), 1);
        check.due("setFirst(0, 2)", x.setFirst(0, 2), 2);
        check.due("FIRST", x.ofState(0, 2), 2);
        // Promise 3: "a PART of it"
        check.due("to an END", x.setFirst(1, 5), 4);
        check.due("FIRST", x.ofState(1, 2), 5);
        check.due("of another one", x.ofState(0, 2), 2);
        check.due("addState(1, 0)", x.addState(1, 0), 8);
        check.due("FIRST stays", x.ofState(1, 2), 5);
        x.start();
        check.due("the BROAD one is FILLED", x.active(), set(0, 2, 7));
        x.stop();
        check.due("back", x.setFirst(0, 1), 2);
        x.start();
        check.due("the END is FILLED", x.active(), set(0, 1, 5));
        // Promise 3: "a PLAIN STATE"
        PuppetTheatre y = Check.chart(0, 1, 1, 0, 2, 3, 2, 0);
        check.dueThrow("BROAD", IllegalArgumentException.class, () -> y.setFirst(1, 2));
        check.due("with one PART alone", y.setFirst(2, 4), 4);
    }

    private static void setDoing() {
        // Promise 4: "Sets an ACTION of a STATE."
        // Promise 4: "the STATE, no MARK"
        // Promise 4: "whether it is that for leaving it"
        // Promise 4: "Returns the code before."
        PuppetTheatre x = small();
        int[] kinds = {0, 1, 2, 4, 5, 7};
        for (int s : kinds) {
            check.due("entering " + s + ", before", x.setDoing(s, false, 1, 0, 7), 0);
            check.due("leaving " + s + ", before", x.setDoing(s, true, 2, 3, -99), 0);
            check.due("entering " + s + ", then", x.setDoing(s, false, 3, 9, 0), 1);
            check.due("leaving " + s + ", then", x.setDoing(s, true, 0, 0, 0), 2);
            check.due("entering " + s + ", then", x.setDoing(s, false, 0, 0, 0), 3);
            check.due("leaving " + s + ", then", x.setDoing(s, true, 0, 0, 0), 0);
        }
        // Promise 4: "code is not 0 to 3, what is not 0 to 3 with 1 and 2, or 0 to 9 with 3, or n is not -99 to 99"
        int[][] edges = {{1, 0, -99}, {1, 3, 99}, {2, 0, 99}, {2, 3, -99}, {3, 0, 0}, {3, 9, 0}, {3, 4, 0}};
        for (int[] edge : edges) {
            for (int turn = 0; turn < 2; turn++) {
                PuppetTheatre y = Check.chart(0, 0, 0, 0);
                y.addTransition(1, 0, 0, 2);
                y.addTransition(0, 0, 9, -1);
                y.addTransition(0, 0, 4, -1);
                y.addTransition(2, 0, 0, -1);
                String what = "code " + edge[0] + ", " + edge[1] + ", " + edge[2];
                check.due(what, y.setDoing(1 + turn, turn == 0, edge[0], edge[1], edge[2]), 0);
                y.start();
                check.due("nothing yet", y.variable(edge[1] % 4), 0);
                check.due(what + ": send(0)", y.send(0), edge[0] == 3 ? 2 : 1);
                check.due(what + ": variable", y.variable(edge[1] % 4), edge[0] == 3 ? 0 : edge[2]);
            }
        }
    }

    private static void setDoingWhatIsNotLookedAt() {
        // Promise 4: "the variable, or event (not looked at with 0)"
        // Promise 4: "n (not looked at with 0 and 3)"
        PuppetTheatre x = small();
        int[] odd = {LEAST, -100, -1, 4, 10, 100, MOST};
        for (int what : odd) {
            for (int n : odd) {
                check.due("0 " + what + " " + n, x.setDoing(1, false, 0, what, n), what == LEAST && n == LEAST ? 0 : 3);
                check.due("3 9 " + n, x.setDoing(1, false, 3, 9, n), 0);
                check.due("leaving, 0 " + what + " " + n, x.setDoing(1, true, 0, what, n), 0);
            }
        }
        x.addTransition(1, 0, 9, -1);
        check.due("start()", x.start(), 1);
    }

    private static void addTransition() {
        // Promise 5: "Adds a TRANSITION."
        // Promise 5: "Returns its number."
        PuppetTheatre x = small();
        // Promise 5: "n is not 0 to 9 with 0, or 1 to 50 with 1"
        check.due("EVENT 0", x.addTransition(1, 0, 0, 2), 0);
        check.due("EVENT 9", x.addTransition(1, 0, 9, 1), 1);
        check.due("AFTER 1", x.addTransition(1, 1, 1, 1), 2);
        check.due("AFTER 50", x.addTransition(1, 1, 50, 4), 3);
        // Promise 5: "n of EVENT and AFTER (not looked at otherwise)"
        int[] odd = {LEAST, -1, 51, MOST};
        for (int i = 0; i < odd.length; i++) {
            check.due("ENDED", x.addTransition(1, 2, odd[i], 3), 4 + 2 * i);
            check.due("ALWAYS", x.addTransition(2, 3, odd[i], -1), 5 + 2 * i);
        }
        // Promise 5: "the STATE to which it is; -1 for none"
        // Promise 5: "there is no SCOPE (from is the ROOT, and to is one)"
        int number = 12;
        for (int trigger = 0; trigger <= 3; trigger++) {
            check.due("of the ROOT to none", x.addTransition(0, trigger, 5, -1), number);
            number++;
        }
        for (int to = 1; to < 8; to++) {
            check.due("of a PLAIN one to " + to, x.addTransition(4, 0, 5, to), number);
            number++;
        }
        for (int to = 1; to < 8; to++) {
            check.due("of a BROAD one to " + to, x.addTransition(2, 0, 5, to), number);
            number++;
        }
        // Promise 5: "or there are 30"
        check.due("transitions()", x.transitions(), 30);
        check.dueThrow("the 31st", IllegalStateException.class, () -> x.addTransition(4, 0, 5, 7));
        check.due("transitions()", x.transitions(), 30);
    }

    private static void addTransitionBehindStop() {
        // Promise 5: "if it RUNS"
        PuppetTheatre x = Check.chart(0, 0);
        x.addTransition(1, 0, 0, -1);
        x.start();
        check.dueThrow("as it RUNS", IllegalStateException.class, () -> x.addTransition(1, 0, 1, -1));
        x.stop();
        check.due("as it does not RUN any more", x.addTransition(1, 0, 1, 1), 1);
        x.start();
        check.due("send(1)", x.send(1), 1);
    }

    private static void setGuard() {
        // Promise 6: "Sets the GUARD of a TRANSITION."
        // Promise 6: "Returns how before."
        // Promise 6: "how is not 0 to 3, variable is not 0 to 3, or n is not -99 to 99"
        PuppetTheatre x = small();
        x.addTransition(1, 0, 0, -1);
        x.addTransition(1, 0, 0, -1);
        int before = 0;
        for (int how = 3; how >= 0; how--) {
            int[][] edges = {{0, -99}, {3, -99}, {0, 99}, {3, 99}};
            for (int[] edge : edges) {
                check.due("how before", x.setGuard(0, how, edge[0], edge[1]), before);
                before = how;
            }
        }
        check.due("of another one", x.setGuard(1, 1, 0, 0), 0);
        // Promise 6: "the variable (not looked at with 0)"
        // Promise 6: "n (likewise)"
        int[] odd = {LEAST, -100, -1, 4, 100, MOST};
        for (int variable : odd) {
            for (int n : odd) {
                check.due("how before", x.setGuard(1, 0, variable, n), variable == LEAST && n == LEAST ? 1 : 2);
                check.due("how before", x.setGuard(1, 2, 3, 99), 0);
            }
        }
        check.due("the last one", x.setGuard(1, 0, MOST, MOST), 2);
        x.start();
        check.due("none holds", x.send(0), 1);
        check.due("fired(0)", x.fired(0), 1);
    }

    private static void setGuardAnew() {
        // Promise 6: "0 for none, 1 less than n, 2 equal to n, 3 greater than n"
        PuppetTheatre x = new PuppetTheatre();
        x.addTransition(0, 0, 0, -1);
        for (int how = 0; how <= 3; how++) {
            for (int n = 4; n <= 6; n++) {
                x.setDoing(0, false, 1, 2, 5);
                x.setGuard(0, how, 2, n);
                x.start();
                boolean holds = how == 0 || how == 1 && 5 < n || how == 2 && 5 == n || how == 3 && 5 > n;
                check.due("5, how " + how + ", " + n, x.send(0), holds ? 1 : 0);
                x.stop();
            }
        }
    }

    private static void setAction() {
        // Promise 7: "Sets the ACTION of a TRANSITION."
        // Promise 7: "Returns the code before."
        // Promise 7: "code is not 0 to 3, what is not 0 to 3 with 1 and 2, or 0 to 9 with 3, or n is not -99 to 99"
        int[][] edges = {{1, 0, -99}, {1, 3, 99}, {2, 0, 99}, {2, 3, -99}, {3, 1, 0}, {3, 9, 0}, {0, 0, 0}};
        PuppetTheatre x = Check.chart(0, 0);
        x.addTransition(1, 0, 0, -1);
        x.addTransition(0, 0, 9, -1);
        x.addTransition(0, 0, 1, -1);
        int before = 0;
        for (int[] edge : edges) {
            String what = "code " + edge[0] + ", " + edge[1] + ", " + edge[2];
            check.due(what, x.setAction(0, edge[0], edge[1], edge[2]), before);
            before = edge[0];
            check.due("of another one", x.setAction(1, 0, 0, 0), 0);
            x.start();
            check.due(what + ": send(0)", x.send(0), edge[0] == 3 ? 2 : 1);
            check.due(what + ": variable", x.variable(edge[1] % 4), edge[2]);
            x.stop();
        }
    }

    private static void setActionWhatIsNotLookedAt() {
        // Promise 7: "the variable, or event (not looked at with 0)"
        // Promise 7: "n (not looked at with 0 and 3)"
        PuppetTheatre x = Check.chart(0, 0);
        x.addTransition(1, 0, 0, -1);
        x.addTransition(1, 0, 9, -1);
        int[] odd = {LEAST, -100, -1, 4, 10, 100, MOST};
        for (int what : odd) {
            for (int n : odd) {
                check.due("0 " + what + " " + n, x.setAction(0, 0, what, n), what == LEAST && n == LEAST ? 0 : 3);
                check.due("3 9 " + n, x.setAction(0, 3, 9, n), 0);
            }
        }
        x.start();
        check.due("send(0)", x.send(0), 2);
    }

    private static void states() {
        // Promise 12: "Returns how many STATES there are."
        PuppetTheatre x = new PuppetTheatre();
        for (int count = 1; count <= 20; count++) {
            check.due("states()", x.states(), count);
            if (count < 20) {
                x.addState(0, count % 5);
            }
        }
        x.start();
        check.due("as it RUNS", x.states(), 20);
        x.stop();
        check.due("behind stop()", x.states(), 20);
    }

    private static void transitions() {
        // Promise 13: "Returns how many TRANSITIONS there are."
        PuppetTheatre x = new PuppetTheatre();
        for (int count = 0; count <= 30; count++) {
            check.due("transitions()", x.transitions(), count);
            if (count < 30) {
                x.addTransition(0, 0, 0, -1);
            }
        }
        x.start();
        x.send(0);
        check.due("as it RUNS", x.transitions(), 30);
        x.stop();
        check.due("behind stop()", x.transitions(), 30);
    }

    private static void ofState() {
        // Promise 14: "0 its kind, 1 its PARENT (-1 of the ROOT), 2 FIRST (-1 if it has none), 3 how many PARTS it has"
        PuppetTheatre x = small();
        int[][] due = {{0, -1, 1, 2}, {0, 0, 4, 2}, {1, 0, -1, 1}, {4, 0, -1, 0}, {0, 1, -1, 0},
            {2, 1, -1, 0}, {3, 1, -1, 0}, {0, 2, -1, 0}};
        for (int turn = 0; turn < 3; turn++) {
            for (int s = 0; s < due.length; s++) {
                for (int what = 0; what < 4; what++) {
                    check.due("ofState(" + s + ", " + what + ")", x.ofState(s, what), due[s][what]);
                }
            }
            if (turn == 0) {
                x.start();
            } else if (turn == 1) {
                x.stop();
            }
        }
        PuppetTheatre y = Check.chart(0, 3, 0, 0, 2, 4);
        check.due("FIRST with a MARK alone", y.ofState(2, 2), -1);
        check.due("FIRST behind a MARK", y.ofState(0, 2), 2);
        check.due("a MARK is no PART", y.ofState(0, 3), 1);
    }
}
