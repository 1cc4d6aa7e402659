/** Promises 8 to 11: running. What is refused stands in RefusalTest, what a STEP is in TermsTest. */
public final class RunningTest {
    private static final Check check = new Check();

    public static void main(String[] args) {
        start();
        startAnew();
        startSettles();
        startOver();
        stop();
        stopOfAll();
        send();
        sendAsItIsOver();
        sendCounts();
        tick();
        tickOfEdges();
        tickTillOver();
        tickStepByStep();
        check.end();
    }

    private static int set(int... states) {
        return Check.set(states);
    }

    private static void start() {
        // Promise 8: "Returns how many TRANSITIONS FIRED (each time that one did counts)."
        // how often one that is ALWAYS FIRES, in one STEP each
        for (int often = 0; often <= 11; often++) {
            PuppetTheatre x = new PuppetTheatre();
            x.addTransition(0, 3, 0, -1);
            x.setGuard(0, 1, 0, often);
            x.setAction(0, 2, 0, 1);
            check.due("start()", x.start(), often);
            check.due("fired(0)", x.fired(0), often);
            check.due("isRunning()", x.isRunning(), true);
        }
        // Promise 8: "Throws IllegalStateException if it RUNS"
        PuppetTheatre y = new PuppetTheatre();
        check.due("the ROOT alone", y.start(), 0);
        check.due("active()", y.active(), set(0));
        check.due("ageOf(0)", y.ageOf(0), 0);
        check.dueThrow("start()", IllegalStateException.class, () -> y.start());
        y.stop();
        check.due("start() behind stop()", y.start(), 0);
    }

    private static void startAnew() {
        // Promise 8: "STARTS it, with all variables 0, without RECORDS, the QUEUE empty, the clock 0, nothing FIRED"
        PuppetTheatre x = Check.chart(0, 0, 0, 0, 1, 0, 1, 0, 1, 3, 1, 4);
        x.addTransition(1, 0, 0, 2);
        x.addTransition(2, 3, 0, -1);
        x.setGuard(1, 3, 0, 98);
        x.setAction(1, 3, 0, 0);
        x.setAction(0, 1, 0, 99);
        x.setDoing(3, false, 2, 1, 3);
        x.addTransition(1, 0, 0, -1);
        for (int v = 2; v < 4; v++) {
            x.setDoing(2, false, v - 1, v, -v);
        }
        for (int turn = 0; turn < 2; turn++) {
            check.due("start()", x.start(), 0);
            check.due("active()", x.active(), set(0, 1, 3));
            int[] numbers = {0, 3, 0, 0};
            for (int v = 0; v < 4; v++) {
                check.due("variable(" + v + ")", x.variable(v), numbers[v]);
            }
            check.due("record(5)", x.record(5), 0);
            check.due("record(6)", x.record(6), 0);
            check.due("clock()", x.clock(), 0);
            check.due("covered()", x.covered(), 0);
            check.due("fired(0)", x.fired(0), 0);
            check.due("fired(1)", x.fired(1), 0);
            check.due("restless()", x.restless(), 0);
            check.due("lost()", x.lost(), 0);
            check.due("ageOf(3)", x.ageOf(3), 0);
            x.tick(3);
            check.due("send(0)", x.send(0), 12);
            check.due("record(5)", x.record(5), set(3));
            check.due("record(6)", x.record(6), set(3));
            check.due("restless()", x.restless(), 1);
            check.due("three for which there was no place, eight as it stopped", x.lost(), 11);
            check.due("clock()", x.clock(), 3);
            x.stop();
        }
    }

    private static void startSettles() {
        // Promise 8: "and SETTLES"
        // 1 is left at once, ALWAYS; what 2 RAISES as it is ENTERED leads on to 3
        PuppetTheatre x = Check.chart(0, 0, 0, 0, 0, 0);
        x.addTransition(1, 3, 0, 2);
        x.addTransition(2, 0, 9, 3);
        x.setDoing(2, false, 3, 9, 0);
        check.due("start()", x.start(), 2);
        check.due("active()", x.active(), set(0, 3));
        check.due("lost()", x.lost(), 0);
    }

    private static void startOver() {
        // Promise 8: "and SETTLES"
        // FIRST of the ROOT is an END: nothing FIRES, and what was RAISED is LOST
        PuppetTheatre x = Check.chart(0, 2);
        x.setDoing(1, false, 3, 0, 0);
        x.setDoing(0, false, 3, 1, 0);
        x.addTransition(0, 3, 0, -1);
        check.due("start()", x.start(), 0);
        check.due("isOver()", x.isOver(), true);
        check.due("isRunning()", x.isRunning(), true);
        check.due("lost()", x.lost(), 2);
        check.due("send(0)", x.send(0), 0);
        check.due("tick(5)", x.tick(5), 0);
        check.due("clock()", x.clock(), 0);
        check.due("lost()", x.lost(), 2);
        check.due("stop()", x.stop(), 2);
        check.due("start() again", x.start(), 0);
        check.due("lost()", x.lost(), 2);
    }

    private static void stop() {
        // Promise 9: "Lets it not RUN any more; no STATE is ACTIVE then, all else (RECORDS, variables and so on) stays till it is STARTED"
        PuppetTheatre x = Check.chart(0, 0, 1, 0, 1, 3, 0, 0, 4, 0, 4, 3);
        x.addTransition(1, 0, 0, 4);
        x.setAction(0, 1, 2, 8);
        x.setDoing(4, true, 1, 2, 9);
        x.setDoing(5, true, 3, 1, 0);
        x.addTransition(0, 3, 0, -1);
        x.setGuard(1, 3, 2, 0);
        x.start();
        x.tick(4);
        x.rowTo(4, 8);
        check.due("send(0), twelve STEPS", x.send(0), 12);
        check.due("stop()", x.stop(), 3);
        check.due("isRunning()", x.isRunning(), false);
        check.due("active()", x.active(), 0);
        for (int s = 0; s < 7; s++) {
            check.due("ageOf(" + s + ")", x.ageOf(s), -1);
        }
        check.due("variable(2): no ACTION for leaving", x.variable(2), 8);
        check.due("record(3) stays", x.record(3), set(2));
        check.due("record(6): none is made", x.record(6), 0);
        check.due("clock()", x.clock(), 4);
        check.due("fired(0)", x.fired(0), 1);
        check.due("fired(1)", x.fired(1), 11);
        check.due("covered()", x.covered(), 2);
        check.due("restless()", x.restless(), 1);
        check.due("lost()", x.lost(), 0);
        check.due("looked()", x.looked(), 1);
        check.dueRow(x, 0);
        // Promise 9: "Throws IllegalStateException if it does not RUN"
        check.dueThrow("stop() again", IllegalStateException.class, () -> x.stop());
        check.due("variable(2)", x.variable(2), 8);
    }

    private static void stopOfAll() {
        // Promise 9: "Returns how many STATES were ACTIVE."
        PuppetTheatre x = new PuppetTheatre();
        for (int count = 1; count <= 20; count++) {
            x.start();
            check.due("stop() of " + count, x.stop(), count);
            if (count < 20) {
                x.addState(count == 1 ? 0 : 1, 1);
            }
        }
        PuppetTheatre y = Check.chart(0, 2, 0, 0);
        y.start();
        check.due("stop() as it is OVER", y.stop(), 2);
    }

    private static void send() {
        // Promise 10: "Sends an event: a STEP by it, and it SETTLES"
        PuppetTheatre x = Check.chart(0, 0, 0, 0, 0, 0);
        x.addTransition(1, 0, 0, 2);
        x.addTransition(2, 0, 9, 1);
        x.addTransition(2, 0, 5, 3);
        x.addTransition(3, 3, 0, 1);
        x.start();
        // Promise 10: "event is not 0 to 9"
        check.dueThrow("send(-1)", IllegalArgumentException.class, () -> x.send(-1));
        check.dueThrow("send(10)", IllegalArgumentException.class, () -> x.send(10));
        check.due("send(9)", x.send(9), 0);
        check.due("send(0)", x.send(0), 1);
        check.due("active()", x.active(), set(0, 2));
        check.due("send(9)", x.send(9), 1);
        check.due("active()", x.active(), set(0, 1));
        x.send(0);
        check.due("send(5), and on ALWAYS", x.send(5), 2);
        check.due("active()", x.active(), set(0, 1));
        check.due("an event is no tick", x.clock(), 0);
        check.due("an event that FIRES nothing is not LOST", x.lost(), 0);
    }

    private static void sendAsItIsOver() {
        // Promise 10: "nothing, if it is OVER"
        PuppetTheatre x = Check.chart(0, 0, 0, 2);
        x.addTransition(1, 0, 0, 2);
        x.addTransition(0, 0, 1, -1);
        x.setAction(1, 2, 0, 1);
        x.start();
        check.due("send(1)", x.send(1), 1);
        check.due("send(0)", x.send(0), 1);
        check.due("isOver()", x.isOver(), true);
        long before = x.digest();
        for (int event = 0; event <= 9; event++) {
            check.due("send(" + event + ") as it is OVER", x.send(event), 0);
        }
        check.due("digest()", x.digest(), before);
        check.due("variable(0)", x.variable(0), 1);
    }

    private static void sendCounts() {
        // Promise 10: "Returns how many TRANSITIONS FIRED (each time that one did counts)."
        PuppetTheatre x = Check.chart(0, 1, 1, 0, 1, 0);
        x.addTransition(2, 0, 0, -1);
        x.addTransition(3, 0, 0, -1);
        x.setAction(0, 3, 0, 0);
        x.setGuard(0, 1, 0, 4);
        x.setGuard(1, 1, 0, 4);
        x.setAction(1, 2, 0, 1);
        x.start();
        check.due("both in each of four STEPS", x.send(0), 8);
        check.due("fired(0)", x.fired(0), 4);
        check.due("fired(1)", x.fired(1), 4);
        check.due("none", x.send(0), 0);
    }

    private static void tick() {
        // Promise 11: "in each one the clock, and the AGE of each STATE that is ACTIVE, are 1 more, then there is a STEP by AFTER, and it SETTLES"
        PuppetTheatre x = Check.chart(0, 0, 0, 0);
        x.addTransition(1, 1, 3, 2);
        x.addTransition(2, 1, 2, 1);
        x.addTransition(0, 1, 50, -1);
        x.start();
        check.due("tick(2)", x.tick(2), 0);
        check.due("ageOf(1)", x.ageOf(1), 2);
        check.due("ageOf(2), which is not ACTIVE", x.ageOf(2), -1);
        check.due("tick(1)", x.tick(1), 1);
        check.due("ageOf(2)", x.ageOf(2), 0);
        check.due("ageOf(0)", x.ageOf(0), 3);
        // Promise 11: "Returns how many TRANSITIONS FIRED (each time that one did counts)."
        check.due("tick(5): 1 and 2 and 1 again", x.tick(5), 2);
        check.due("active()", x.active(), set(0, 2));
        check.due("clock()", x.clock(), 8);
        // the 50th tick comes as 2 is ACTIVE since 48, and the nearer STATE is CHOSEN
        check.due("tick(42)", x.tick(42), 17);
        check.due("fired(2)", x.fired(2), 0);
        check.due("clock()", x.clock(), 50);
    }

    private static void tickOfEdges() {
        // Promise 11: "ticks is not 1 to 50"
        PuppetTheatre x = Check.chart(0, 0);
        x.addTransition(1, 1, 50, 1);
        x.start();
        check.dueThrow("tick(0)", IllegalArgumentException.class, () -> x.tick(0));
        check.dueThrow("tick(51)", IllegalArgumentException.class, () -> x.tick(51));
        check.due("clock()", x.clock(), 0);
        check.due("tick(50)", x.tick(50), 1);
        check.due("clock()", x.clock(), 50);
        check.due("ageOf(0)", x.ageOf(0), 50);
        check.due("ageOf(1)", x.ageOf(1), 0);
        check.due("tick(1)", x.tick(1), 0);
        check.due("clock()", x.clock(), 51);
        check.due("ageOf(1)", x.ageOf(1), 1);
        check.due("tick(49)", x.tick(49), 1);
    }

    private static void tickTillOver() {
        // Promise 11: "as long as it is not OVER"
        PuppetTheatre x = Check.chart(0, 0, 0, 2);
        x.addTransition(1, 1, 7, 2);
        x.start();
        check.due("tick(50)", x.tick(50), 1);
        check.due("clock()", x.clock(), 7);
        check.due("ageOf(0)", x.ageOf(0), 7);
        check.due("ageOf(2)", x.ageOf(2), 0);
        check.due("tick(1)", x.tick(1), 0);
        check.due("tick(50)", x.tick(50), 0);
        check.due("clock()", x.clock(), 7);
        check.due("ageOf(0)", x.ageOf(0), 7);
        check.due("ageOf(2)", x.ageOf(2), 0);
        check.due("meanAge()", x.meanAge(), 3.5);
    }

    private static void tickStepByStep() {
        // Promise 11: "Lets ticks pass: in each one"
        // as many ticks in one call as in many: the same answers
        for (int ticks = 1; ticks <= 50; ticks++) {
            PuppetTheatre x = restlessOne();
            PuppetTheatre y = restlessOne();
            int count = 0;
            for (int i = 0; i < ticks; i++) {
                count += y.tick(1);
            }
            check.due("tick(" + ticks + ")", x.tick(ticks), count);
            check.due("digest()", x.digest(), y.digest());
        }
    }

    /** 1 goes to 2 and back by ticks; each third tick RAISES an event that goes on and on. */
    private static PuppetTheatre restlessOne() {
        PuppetTheatre x = Check.chart(0, 0, 0, 0, 0, 2);
        x.addTransition(1, 1, 1, 2);
        x.addTransition(2, 1, 2, 1);
        x.setAction(1, 3, 0, 0);
        x.addTransition(1, 0, 0, 1);
        x.setAction(2, 3, 0, 0);
        x.setDoing(2, false, 2, 3, 7);
        x.addTransition(2, 1, 2, 3);
        x.setGuard(1, 1, 3, 90);
        x.start();
        return x;
    }
}
