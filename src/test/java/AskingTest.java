/** Promises 15 to 26: asking. */
public final class AskingTest {
    private static final Class<IndexOutOfBoundsException> INDEX = IndexOutOfBoundsException.class;
    private static final Class<IllegalArgumentException> ARGUMENT = IllegalArgumentException.class;

    private static final Check check = new Check();

    public static void main(String[] args) {
        isRunning();
        active();
        isOver();
        isEnded();
        isEndedOfBroad();
        ageOf();
        record();
        recordsAtEachLeaving();
        variable();
        clock();
        firedAndCovered();
        lost();
        restless();
        noSuch();
        check.end();
    }

    private static void isRunning() {
        PuppetTheatre x = Check.chart(0, 2);
        check.due("a new one", x.isRunning(), false);
        x.start();
        check.due("STARTED, also if it is OVER", x.isRunning(), true);
        x.stop();
        check.due("stopped", x.isRunning(), false);
    }

    private static void active() {
        PuppetTheatre x = Check.chart();
        for (int s = 1; s < 20; s++) {
            x.addState(s - 1, 0);
        }
        check.due("ahead of start()", x.active(), 0);
        x.start();
        check.due("all twenty", x.active(), (1 << 20) - 1);
        x.stop();
        check.due("behind stop()", x.active(), 0);
    }

    private static void isOver() {
        PuppetTheatre x = Check.chart(0, 0, 1, 0, 1, 2, 0, 2);
        x.addTransition(2, 0, 0, 3);
        x.addTransition(1, 0, 1, 4);
        check.due("ahead of start()", x.isOver(), false);
        x.start();
        check.due("behind start()", x.isOver(), false);
        x.send(0);
        check.due("an END in a PART", x.isOver(), false);
        x.send(1);
        check.due("an END in the ROOT", x.isOver(), true);
        x.stop();
        check.due("behind stop()", x.isOver(), false);
    }

    private static void isEnded() {
        PuppetTheatre x = Check.chart(0, 0, 1, 0, 1, 2, 0, 2, 2, 2);
        x.addTransition(1, 0, 0, 3);
        x.addTransition(1, 0, 1, 4);
        check.due("ahead of start()", x.isEnded(1), false);
        x.start();
        check.due("2 is", x.isEnded(2), true);
        check.due("1 is not", x.isEnded(1), false);
        x.send(0);
        check.due("1 is", x.isEnded(1), true);
        check.due("2 is not ACTIVE", x.isEnded(2), false);
        check.due("an END is not", x.isEnded(3), false);
        check.due("the ROOT is not", x.isEnded(0), false);
        x.send(1);
        check.due("the ROOT is", x.isEnded(0), true);
        check.due("1 is left", x.isEnded(1), false);
        x.stop();
        check.due("the ROOT behind stop()", x.isEnded(0), false);
    }

    private static void isEndedOfBroad() {
        // 1 BROAD { 2 { 3, 4 END }, 5 BROAD { 6 { 7 END } }, 8 HISTORY }, 9 BROAD, 10 BROAD { 11 HISTORY }
        PuppetTheatre x = Check.chart(0, 1, 1, 0, 2, 0, 2, 2, 1, 1, 5, 0, 6, 2, 1, 3, 0, 1, 0, 1, 10, 3);
        x.addTransition(3, 0, 0, 4);
        x.addTransition(1, 0, 1, 9);
        x.addTransition(9, 0, 2, 10);
        x.start();
        check.due("all PARTS of 5 are", x.isEnded(5), true);
        check.due("not all PARTS of 1 are", x.isEnded(1), false);
        x.send(0);
        check.due("all PARTS of 1 are, a MARK is none", x.isEnded(1), true);
        x.send(1);
        check.due("one without PARTS", x.isEnded(9), false);
        x.send(2);
        check.due("one with a MARK alone", x.isEnded(10), false);
    }

    private static void ageOf() {
        PuppetTheatre x = Check.chart(0, 0, 0, 0);
        x.addTransition(1, 0, 0, 2);
        x.addTransition(2, 0, 0, 2);
        check.due("ahead of start()", x.ageOf(0), -1);
        x.start();
        check.due("behind start()", x.ageOf(1), 0);
        check.due("of one not ACTIVE", x.ageOf(2), -1);
        for (int i = 0; i < 4; i++) {
            x.tick(50);
        }
        check.due("not cut", x.ageOf(1), 200);
        x.send(0);
        check.due("of one that was left", x.ageOf(1), -1);
        check.due("of one ENTERED", x.ageOf(2), 0);
        x.tick(7);
        check.due("seven ticks later", x.ageOf(2), 7);
        check.due("of the ROOT", x.ageOf(0), 207);
        x.send(0);
        check.due("ENTERED anew", x.ageOf(2), 0);
        x.stop();
        check.due("behind stop()", x.ageOf(0), -1);
        x.start();
        check.due("STARTED anew", x.ageOf(0), 0);
    }

    private static void record() {
        PuppetTheatre x = Check.chart(0, 0, 1, 3, 1, 4, 1, 0, 4, 0, 0, 0, 0, 2);
        x.addTransition(1, 0, 0, 6);
        check.due("ahead of start()", x.record(2), 0);
        x.start();
        check.due("none yet", x.record(2), 0);
        x.send(0);
        check.due("HISTORY", x.record(2), 1 << 4);
        check.due("DEEP", x.record(3), 1 << 5);
        x.stop();
        check.due("behind stop()", x.record(2), 1 << 4);
        check.dueThrow(x, "of the ROOT", ARGUMENT, () -> x.record(0));
        check.dueThrow(x, "of a PLAIN one", ARGUMENT, () -> x.record(1));
        check.dueThrow(x, "of an END", ARGUMENT, () -> x.record(7));
        x.start();
        check.due("STARTED anew", x.record(3), 0);
    }

    /** The last leaving counts, and that of its PARENT alone. */
    private static void recordsAtEachLeaving() {
        PuppetTheatre x = Check.chart(0, 0, 1, 0, 1, 0, 1, 3, 0, 0, 1, 1);
        x.addTransition(2, 0, 0, 3);
        x.addTransition(1, 0, 1, 5);
        x.addTransition(5, 0, 2, 1);
        x.addTransition(5, 0, 3, 6);
        x.start();
        x.send(0);
        check.due("its PARENT is not left", x.record(4), 0);
        x.send(1);
        check.due("first", x.record(4), 1 << 3);
        x.send(2);
        check.due("not looked at", x.record(4), 1 << 3);
        x.send(1);
        check.due("then", x.record(4), 1 << 2);
        x.send(3);
        x.send(1);
        check.due("a BROAD PART", x.record(4), 1 << 6);
    }

    private static void variable() {
        PuppetTheatre x = Check.chart();
        x.setDoing(0, false, 1, 3, -99);
        check.due("ahead of start()", x.variable(3), 0);
        x.start();
        check.due("variable(3)", x.variable(3), -99);
        check.due("variable(0)", x.variable(0), 0);
        x.stop();
        check.due("behind stop()", x.variable(3), -99);
        check.dueThrow(x, "variable(-1)", INDEX, () -> x.variable(-1));
        check.dueThrow(x, "variable(4)", INDEX, () -> x.variable(4));
        check.dueThrow(x, "variable of the smallest", INDEX, () -> x.variable(Integer.MIN_VALUE));
    }

    private static void clock() {
        PuppetTheatre x = Check.chart();
        x.start();
        x.tick(50);
        x.tick(1);
        x.send(0);
        check.due("clock()", x.clock(), 51);
        x.stop();
        check.due("behind stop()", x.clock(), 51);
        x.start();
        check.due("STARTED anew", x.clock(), 0);
    }

    private static void firedAndCovered() {
        PuppetTheatre x = Check.chart();
        x.addTransition(0, 0, 0, -1);
        x.addTransition(0, 0, 1, -1);
        x.addTransition(0, 0, 2, -1);
        check.due("ahead of start()", x.fired(0), 0);
        x.start();
        x.send(0);
        x.send(0);
        x.send(2);
        check.due("fired(0)", x.fired(0), 2);
        check.due("fired(1)", x.fired(1), 0);
        check.due("fired(2)", x.fired(2), 1);
        check.due("covered()", x.covered(), 2);
        check.dueThrow(x, "fired(-1)", INDEX, () -> x.fired(-1));
        check.dueThrow(x, "fired(3)", INDEX, () -> x.fired(3));
        x.stop();
        check.due("behind stop()", x.fired(0), 2);
        check.due("behind stop()", x.covered(), 2);
        check.due("the next", x.addTransition(0, 0, 0, -1), 3);
        check.due("fired(3)", x.fired(3), 0);
        x.start();
        check.due("STARTED anew", x.fired(0), 0);
        check.due("STARTED anew", x.covered(), 0);
    }

    /** What a look or a question would lose does not count. */
    private static void lost() {
        PuppetTheatre x = Check.chart(0, 0, 0, 2);
        x.addTransition(1, 0, 0, 2);
        x.setAction(0, 3, 9, 0);
        x.start();
        x.wouldFire(0);
        x.wouldBe(0);
        x.rowTo(2, 8);
        check.due("nothing yet", x.lost(), 0);
        x.send(0);
        check.due("lost()", x.lost(), 1);
        x.stop();
        check.due("behind stop()", x.lost(), 1);
        x.start();
        check.due("STARTED anew", x.lost(), 0);
    }

    private static void restless() {
        PuppetTheatre x = Check.chart();
        x.addTransition(0, 3, 0, -1);
        check.due("ahead of start()", x.restless(), 0);
        check.due("start()", x.start(), 12);
        check.due("restless()", x.restless(), 1);
        x.wouldFire(5);
        x.wouldBe(5);
        check.due("an answer is none", x.restless(), 1);
        check.due("send(5): its own STEP FIRES nothing", x.send(5), 12);
        check.due("restless()", x.restless(), 2);
        x.tick(3);
        check.due("once in each tick", x.restless(), 5);
        x.stop();
        check.due("behind stop()", x.restless(), 5);
        x.start();
        check.due("STARTED anew", x.restless(), 1);
    }

    private static void noSuch() {
        PuppetTheatre x = Check.chart(0, 3);
        int[] none = {-1, 2, 19, 20, 32, Integer.MAX_VALUE, Integer.MIN_VALUE};
        for (int s : none) {
            check.dueThrow(x, "isEnded(" + s + ")", INDEX, () -> x.isEnded(s));
            check.dueThrow(x, "ageOf(" + s + ")", INDEX, () -> x.ageOf(s));
            check.dueThrow(x, "record(" + s + ")", INDEX, () -> x.record(s));
            check.dueThrow(x, "fired(" + s + ")", INDEX, () -> x.fired(s));
        }
        check.dueThrow(x, "fired(0)", INDEX, () -> x.fired(0));
    }
}
