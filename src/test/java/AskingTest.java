/** Promises 15 to 26: asking. What is refused stands in RefusalTest. */
public final class AskingTest {
    private static final Check check = new Check();

    public static void main(String[] args) {
        isRunning();
        active();
        isOver();
        isEnded();
        isEndedOfBroad();
        ageOf();
        record();
        recordsAtEachLeaving();
        recordOfAll();
        variable();
        clock();
        fired();
        covered();
        lost();
        restless();
        nothingIsChanged();
        check.end();
    }

    private static int set(int... members) {
        return Check.set(members);
    }

    private static void isRunning() {
        // Promise 15: "Returns whether it RUNS."
        PuppetTheatre x = Check.chart(0, 2);
        check.due("a new one", x.isRunning(), false);
        x.start();
        check.due("STARTED, also if it is OVER", x.isRunning(), true);
        check.dueThrow("start()", IllegalStateException.class, () -> x.start());
        check.due("behind a refused call", x.isRunning(), true);
        x.stop();
        check.due("stopped", x.isRunning(), false);
        check.dueThrow("stop()", IllegalStateException.class, () -> x.stop());
        check.due("behind a refused call", x.isRunning(), false);
        x.start();
        check.due("STARTED again", x.isRunning(), true);
    }

    private static void active() {
        // Promise 16: "Returns the set of STATES that are ACTIVE."
        PuppetTheatre x = Check.chart();
        for (int count = 1; count <= 20; count++) {
            check.due("ahead of start()", x.active(), 0);
            x.start();
            check.due("all " + count, x.active(), (1 << count) - 1);
            x.stop();
            check.due("behind stop()", x.active(), 0);
            if (count < 20) {
                x.addState(count - 1, 0);
            }
        }
    }

    private static void isOver() {
        // Promise 17: "Returns whether it RUNS, and is OVER."
        PuppetTheatre x = Check.chart(0, 0, 1, 0, 1, 2, 0, 2);
        x.addTransition(2, 0, 0, 3);
        x.addTransition(1, 0, 1, 4);
        check.due("ahead of start()", x.isOver(), false);
        x.start();
        check.due("behind start()", x.isOver(), false);
        x.send(0);
        check.due("an END in a PART", x.isOver(), false);
        x.send(1);
        check.due("an END in the ROOT", x.isOver(), true);
        x.stop();
        check.due("behind stop()", x.isOver(), false);
        x.start();
        check.due("STARTED anew", x.isOver(), false);
        PuppetTheatre y = Check.chart(0, 2);
        y.start();
        check.due("at once", y.isOver(), true);
    }

    private static void isEnded() {
        // Promise 18: "Returns whether it is ENDED."
        PuppetTheatre x = Check.chart(0, 0, 1, 0, 1, 2, 0, 2, 2, 2, 0, 3);
        x.addTransition(1, 0, 0, 3);
        x.addTransition(1, 0, 1, 4);
        check.due("ahead of start()", x.isEnded(1), false);
        x.start();
        boolean[][] due = {{false, false, true, false, false, false, false},
            {false, true, false, false, false, false, false}, {true, false, false, false, false, false, false}};
        for (int turn = 0; turn < 3; turn++) {
            if (turn > 0) {
                x.send(turn - 1);
            }
            for (int s = 0; s < 7; s++) {
                check.due("isEnded(" + s + ") in turn " + turn, x.isEnded(s), due[turn][s]);
            }
        }
        x.stop();
        check.due("the ROOT behind stop()", x.isEnded(0), false);
    }

    private static void isEndedOfBroad() {
        // Promise 18: "Returns whether it is ENDED."
        // 1 BROAD { 2 { 3, 4 END }, 5 BROAD { 6 { 7 END } }, 8 HISTORY }, 9 BROAD, 10 BROAD { 11 HISTORY }
        PuppetTheatre x = Check.chart(0, 1, 1, 0, 2, 0, 2, 2, 1, 1, 5, 0, 6, 2, 1, 3, 0, 1, 0, 1, 10, 3);
        x.addTransition(3, 0, 0, 4);
        x.addTransition(1, 0, 1, 9);
        x.addTransition(9, 0, 2, 10);
        check.due("not ACTIVE", x.isEnded(5), false);
        x.start();
        check.due("all PARTS of 5 are", x.isEnded(5), true);
        check.due("not all PARTS of 1 are", x.isEnded(1), false);
        x.send(0);
        check.due("all PARTS of 1 are, a MARK is none", x.isEnded(1), true);
        check.due("the ROOT is PLAIN, and has no END", x.isEnded(0), false);
        x.send(1);
        check.due("1 is left", x.isEnded(1), false);
        check.due("one without PARTS", x.isEnded(9), false);
        x.send(2);
        check.due("one with a MARK alone", x.isEnded(10), false);
    }

    private static void ageOf() {
        // Promise 19: "Returns its AGE; -1 if it is not ACTIVE."
        PuppetTheatre x = Check.chart(0, 0, 0, 0, 0, 3);
        x.addTransition(1, 0, 0, 2);
        x.addTransition(2, 0, 0, 2);
        check.due("ahead of start()", x.ageOf(0), -1);
        x.start();
        check.due("behind start()", x.ageOf(1), 0);
        check.due("of one not ACTIVE", x.ageOf(2), -1);
        check.due("of a MARK", x.ageOf(3), -1);
        for (int i = 0; i < 4; i++) {
            x.tick(50);
        }
        check.due("not cut", x.ageOf(1), 200);
        x.send(0);
        check.due("of one that was left", x.ageOf(1), -1);
        check.due("of one ENTERED", x.ageOf(2), 0);
        x.tick(7);
        check.due("seven ticks later", x.ageOf(2), 7);
        check.due("of the ROOT", x.ageOf(0), 207);
        check.due("of one that was left", x.ageOf(1), -1);
        x.send(0);
        check.due("ENTERED anew", x.ageOf(2), 0);
        x.stop();
        check.due("behind stop()", x.ageOf(0), -1);
        x.start();
        check.due("STARTED anew", x.ageOf(0), 0);
    }

    private static void record() {
        // Promise 20: "Returns its RECORD, a set; 0 if it has none."
        PuppetTheatre x = Check.chart(0, 0, 1, 3, 1, 4, 1, 0, 4, 0, 0, 0, 0, 2);
        x.addTransition(1, 0, 0, 6);
        check.due("ahead of start()", x.record(2), 0);
        x.start();
        check.due("none yet", x.record(2), 0);
        check.due("none yet", x.record(3), 0);
        x.send(0);
        check.due("HISTORY", x.record(2), set(4));
        check.due("DEEP", x.record(3), set(5));
        x.stop();
        check.due("behind stop()", x.record(2), set(4));
        x.start();
        check.due("STARTED anew", x.record(3), 0);
        int[] noMarks = {0, 1, 4, 7};
        for (int s : noMarks) {
            check.dueThrow("record(" + s + ")", IllegalArgumentException.class, () -> x.record(s));
        }
    }

    private static void recordsAtEachLeaving() {
        // Promise 20: "Returns its RECORD, a set; 0 if it has none."
        // the last leaving counts, and that of its PARENT alone
        PuppetTheatre x = Check.chart(0, 0, 1, 0, 1, 0, 1, 3, 0, 0, 1, 1);
        x.addTransition(2, 0, 0, 3);
        x.addTransition(1, 0, 1, 5);
        x.addTransition(5, 0, 2, 1);
        x.addTransition(5, 0, 3, 6);
        x.start();
        x.send(0);
        check.due("its PARENT is not left", x.record(4), 0);
        x.send(1);
        check.due("first", x.record(4), set(3));
        x.send(2);
        check.due("not looked at", x.record(4), set(3));
        x.send(1);
        check.due("then", x.record(4), set(2));
        x.send(3);
        x.send(1);
        check.due("a BROAD PART", x.record(4), set(6));
    }

    private static void recordOfAll() {
        // Promise 20: "Returns its RECORD, a set; 0 if it has none."
        // as many as there can be: 1 BROAD { 4 to 19, 2 HISTORY, 3 DEEP }, to itself
        PuppetTheatre x = Check.chart(0, 1, 1, 3, 1, 4);
        while (x.states() < 20) {
            x.addState(1, 0);
        }
        x.addTransition(1, 0, 0, 1);
        x.start();
        x.send(0);
        check.due("HISTORY", x.record(2), (1 << 20) - 16);
        check.due("DEEP", x.record(3), (1 << 20) - 16);
    }

    private static void variable() {
        // Promise 21: "Returns its number."
        PuppetTheatre x = Check.chart();
        int[] numbers = {99, -99, 0, 1};
        for (int v = 0; v < 4; v++) {
            x.addTransition(0, 0, v, -1);
            x.setAction(v, 1, v, numbers[v]);
        }
        x.start();
        for (int v = 0; v < 4; v++) {
            check.due("at first", x.variable(v), 0);
            x.send(v);
            check.due("variable(" + v + ")", x.variable(v), numbers[v]);
        }
        x.stop();
        for (int v = 0; v < 4; v++) {
            check.due("behind stop()", x.variable(v), numbers[v]);
        }
        // Promise 21: "if there is no such variable"
        check.dueThrow("variable(-1)", IndexOutOfBoundsException.class, () -> x.variable(-1));
        check.dueThrow("variable(4)", IndexOutOfBoundsException.class, () -> x.variable(4));
    }

    private static void clock() {
        // Promise 22: "Returns the clock."
        PuppetTheatre x = Check.chart();
        check.due("ahead of start()", x.clock(), 0);
        x.start();
        check.due("behind start()", x.clock(), 0);
        x.tick(50);
        x.tick(1);
        x.send(0);
        check.due("clock()", x.clock(), 51);
        x.wouldBe(0);
        x.rowTo(0, 8);
        check.due("a question is no tick", x.clock(), 51);
        x.stop();
        check.due("behind stop()", x.clock(), 51);
        x.start();
        check.due("STARTED anew", x.clock(), 0);
    }

    private static void fired() {
        // Promise 23: "Returns how often it FIRED since it was STARTED last."
        PuppetTheatre x = Check.chart();
        x.addTransition(0, 0, 0, -1);
        x.addTransition(0, 0, 1, -1);
        x.addTransition(0, 0, 2, -1);
        check.due("ahead of start()", x.fired(0), 0);
        x.start();
        for (int often = 1; often <= 3; often++) {
            x.send(0);
            check.due("fired(0)", x.fired(0), often);
        }
        x.send(2);
        check.due("fired(1)", x.fired(1), 0);
        check.due("fired(2)", x.fired(2), 1);
        x.wouldFire(1);
        x.rowFor(1, 8);
        check.due("a question FIRES nothing", x.fired(1), 0);
        x.stop();
        check.due("behind stop()", x.fired(0), 3);
        check.due("the next", x.addTransition(0, 0, 0, -1), 3);
        check.due("fired(3)", x.fired(3), 0);
        x.start();
        check.due("STARTED anew", x.fired(0), 0);
        // Promise 23: "if there is no such TRANSITION"
        check.dueThrow("fired(-1)", IndexOutOfBoundsException.class, () -> x.fired(-1));
        check.dueThrow("fired(4)", IndexOutOfBoundsException.class, () -> x.fired(4));
    }

    private static void covered() {
        // Promise 24: "Returns how many TRANSITIONS FIRED at least once since then."
        PuppetTheatre x = Check.chart();
        for (int t = 0; t < 30; t++) {
            x.addTransition(0, 0, 0, -1);
            // each one that FIRES opens the next one and shuts itself
            x.setGuard(t, 2, 0, t);
            x.setAction(t, 2, 0, 1);
        }
        check.due("ahead of start()", x.covered(), 0);
        x.start();
        for (int t = 0; t < 30; t++) {
            check.due("covered()", x.covered(), t);
            x.send(0);
            check.due("fired(" + t + ")", x.fired(t), 1);
        }
        check.due("all", x.covered(), 30);
        x.send(0);
        check.due("none is OPEN", x.covered(), 30);
        x.stop();
        check.due("behind stop()", x.covered(), 30);
        x.start();
        check.due("STARTED anew", x.covered(), 0);
        PuppetTheatre y = Check.chart();
        y.addTransition(0, 0, 0, -1);
        y.start();
        y.send(0);
        y.send(0);
        check.due("twice is at least once", y.covered(), 1);
    }

    private static void lost() {
        // Promise 25: "Returns how many events were LOST since then."
        PuppetTheatre x = Check.chart(0, 0, 0, 2);
        x.addTransition(1, 0, 0, 2);
        x.setAction(0, 3, 9, 0);
        check.due("ahead of start()", x.lost(), 0);
        x.start();
        x.wouldFire(0);
        x.wouldBe(0);
        x.rowTo(2, 8);
        check.due("what a question would lose does not count", x.lost(), 0);
        x.send(0);
        check.due("lost()", x.lost(), 1);
        x.stop();
        check.due("behind stop()", x.lost(), 1);
        x.start();
        check.due("STARTED anew", x.lost(), 0);
    }

    private static void restless() {
        // Promise 26: "Returns how often it was RESTLESS since then."
        PuppetTheatre x = Check.chart();
        x.addTransition(0, 3, 0, -1);
        check.due("ahead of start()", x.restless(), 0);
        check.due("start()", x.start(), 12);
        check.due("restless()", x.restless(), 1);
        x.wouldFire(5);
        x.wouldBe(5);
        x.rowFor(0, 1);
        check.due("a question is none", x.restless(), 1);
        check.due("send(5)", x.send(5), 12);
        check.due("restless()", x.restless(), 2);
        x.tick(3);
        check.due("once in each tick", x.restless(), 5);
        x.tick(50);
        check.due("once in each tick", x.restless(), 55);
        x.stop();
        check.due("behind stop()", x.restless(), 55);
        x.start();
        check.due("STARTED anew", x.restless(), 1);
    }

    private static void nothingIsChanged() {
        // Terms: "asking"
        PuppetTheatre x = Check.chart(0, 0, 1, 3, 0, 0);
        x.addTransition(1, 0, 0, 3);
        x.start();
        x.tick(2);
        x.send(0);
        long before = x.digest();
        x.states();
        x.transitions();
        x.ofState(1, 3);
        x.isRunning();
        x.active();
        x.isOver();
        x.isEnded(0);
        x.ageOf(0);
        x.record(2);
        x.variable(3);
        x.clock();
        x.fired(0);
        x.covered();
        x.lost();
        x.restless();
        x.rowAt(0);
        x.looked();
        x.meanAge();
        x.digest();
        check.due("digest()", x.digest(), before);
    }
}
