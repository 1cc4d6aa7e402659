/** Promises 8 to 11, and of the terms 4 WHAT IS ACTIVE and 5 A STEP. */
public final class RunningTest {
    private static final Class<IllegalStateException> STATE = IllegalStateException.class;
    private static final Class<IllegalArgumentException> ARGUMENT = IllegalArgumentException.class;

    private static final Check check = new Check();

    public static void main(String[] args) {
        rootAlone();
        start();
        startOver();
        stop();
        send();
        tick();
        tickTillOver();
        orderOfActions();
        nearestIsChosen();
        selfAndOutward();
        broadWays();
        innerOneWins();
        innerOneWinsLater();
        outerOneComesLater();
        onesBetweenStay();
        eachComesOnce();
        twentyStates();
        twentyStatesSideBySide();
        shallowHistory();
        deepHistory();
        historyOfBroad();
        historyWithoutRecord();
        marksOnly();
        ended();
        queue();
        queueIsFull();
        queueIsLostAsOver();
        restless();
        restlessTicks();
        overAtTwelfth();
        check.end();
    }

    private static int set(int... states) {
        int sum = 0;
        for (int s : states) {
            sum |= 1 << s;
        }
        return sum;
    }

    private static void rootAlone() {
        PuppetTheatre x = new PuppetTheatre();
        x.addTransition(0, 0, 4, -1);
        x.addTransition(0, 1, 3, -1);
        check.due("start()", x.start(), 0);
        check.due("active()", x.active(), set(0));
        check.due("the ROOT is a LEAF", x.send(4), 1);
        check.due("send(5)", x.send(5), 0);
        check.due("tick(2)", x.tick(2), 0);
        check.due("tick(1)", x.tick(1), 1);
        check.due("tick(50)", x.tick(50), 0);
        check.due("ageOf(0)", x.ageOf(0), 53);
    }

    /** It begins anew: variables, RECORDS, the clock, what FIRED, LOST and RESTLESS. */
    private static void start() {
        PuppetTheatre x = Check.chart(0, 0, 0, 0, 1, 0, 1, 0, 1, 3);
        x.addTransition(1, 0, 0, 2);
        x.addTransition(2, 3, 0, -1);
        x.setGuard(1, 3, 0, 98);
        x.setAction(1, 3, 0, 0);
        x.setAction(0, 1, 0, 99);
        x.setDoing(3, false, 2, 1, 3);
        check.due("start()", x.start(), 0);
        check.due("active()", x.active(), set(0, 1, 3));
        check.due("variable(1)", x.variable(1), 3);
        x.tick(3);
        check.due("send(0)", x.send(0), 12);
        check.due("record(5)", x.record(5), set(3));
        check.due("restless()", x.restless(), 1);
        check.due("three for which there was no place, eight as it stopped", x.lost(), 11);
        check.dueThrow(x, "start()", STATE, () -> x.start());
        x.stop();
        check.due("start() again", x.start(), 0);
        check.due("variable(0)", x.variable(0), 0);
        check.due("variable(1)", x.variable(1), 3);
        check.due("record(5)", x.record(5), 0);
        check.due("clock()", x.clock(), 0);
        check.due("covered()", x.covered(), 0);
        check.due("fired(1)", x.fired(1), 0);
        check.due("restless()", x.restless(), 0);
        check.due("lost()", x.lost(), 0);
    }

    /** FIRST of the ROOT is an END: nothing FIRES, and what was RAISED is LOST. */
    private static void startOver() {
        PuppetTheatre x = Check.chart(0, 2);
        x.setDoing(1, false, 3, 0, 0);
        x.setDoing(0, false, 3, 1, 0);
        x.addTransition(0, 3, 0, -1);
        check.due("start()", x.start(), 0);
        check.due("isOver()", x.isOver(), true);
        check.due("lost()", x.lost(), 2);
        check.due("send(0)", x.send(0), 0);
        check.due("tick(5)", x.tick(5), 0);
        check.due("clock()", x.clock(), 0);
        check.due("lost()", x.lost(), 2);
    }

    private static void stop() {
        PuppetTheatre x = Check.chart(0, 0, 1, 0, 1, 3, 0, 0);
        x.addTransition(1, 0, 0, 4);
        x.setAction(0, 1, 2, 8);
        x.setDoing(4, true, 1, 2, 9);
        check.dueThrow(x, "stop()", STATE, () -> x.stop());
        x.start();
        x.tick(4);
        x.send(0);
        check.due("stop()", x.stop(), 2);
        check.due("isRunning()", x.isRunning(), false);
        check.due("active()", x.active(), 0);
        check.due("no ACTION for leaving", x.variable(2), 8);
        check.due("record(3)", x.record(3), set(2));
        check.due("clock()", x.clock(), 4);
        check.due("fired(0)", x.fired(0), 1);
        check.due("covered()", x.covered(), 1);
        check.due("ageOf(0)", x.ageOf(0), -1);
        check.dueThrow(x, "stop()", STATE, () -> x.stop());
        check.dueThrow(x, "send(0)", STATE, () -> x.send(0));
        check.dueThrow(x, "send(99)", STATE, () -> x.send(99));
        check.dueThrow(x, "tick(1)", STATE, () -> x.tick(1));
        check.dueThrow(x, "tick(99)", STATE, () -> x.tick(99));
    }

    private static void send() {
        PuppetTheatre x = Check.chart(0, 0, 0, 0, 0, 2);
        x.addTransition(1, 0, 0, 2);
        x.addTransition(2, 0, 9, 1);
        x.addTransition(2, 0, 5, 3);
        x.start();
        check.dueThrow(x, "send(-1)", ARGUMENT, () -> x.send(-1));
        check.dueThrow(x, "send(10)", ARGUMENT, () -> x.send(10));
        check.due("send(9)", x.send(9), 0);
        check.due("send(0)", x.send(0), 1);
        check.due("active()", x.active(), set(0, 2));
        check.due("send(9)", x.send(9), 1);
        x.send(0);
        check.due("send(5)", x.send(5), 1);
        check.due("isOver()", x.isOver(), true);
        check.due("send(9)", x.send(9), 0);
        check.due("active()", x.active(), set(0, 3));
    }

    private static void tick() {
        PuppetTheatre x = Check.chart(0, 0, 0, 0);
        x.addTransition(1, 1, 3, 2);
        x.addTransition(2, 1, 2, 1);
        x.addTransition(0, 1, 50, -1);
        x.start();
        check.dueThrow(x, "tick(0)", ARGUMENT, () -> x.tick(0));
        check.dueThrow(x, "tick(51)", ARGUMENT, () -> x.tick(51));
        check.dueThrow(x, "tick(-1)", ARGUMENT, () -> x.tick(-1));
        check.due("tick(2)", x.tick(2), 0);
        check.due("ageOf(1)", x.ageOf(1), 2);
        check.due("tick(1)", x.tick(1), 1);
        check.due("ageOf(2)", x.ageOf(2), 0);
        check.due("ageOf(0)", x.ageOf(0), 3);
        check.due("tick(5): 1 and 2 and 1 again", x.tick(5), 2);
        check.due("active()", x.active(), set(0, 2));
        check.due("clock()", x.clock(), 8);
        // the 50th tick comes as 2 is ACTIVE since 48, and the nearer STATE is CHOSEN
        check.due("tick(42)", x.tick(42), 17);
        check.due("fired(2)", x.fired(2), 0);
        check.due("clock()", x.clock(), 50);
    }

    private static void tickTillOver() {
        PuppetTheatre x = Check.chart(0, 0, 0, 2);
        x.addTransition(1, 1, 7, 2);
        x.start();
        check.due("tick(50)", x.tick(50), 1);
        check.due("clock()", x.clock(), 7);
        check.due("ageOf(0)", x.ageOf(0), 7);
        check.due("ageOf(2)", x.ageOf(2), 0);
        check.due("tick(1)", x.tick(1), 0);
        check.due("clock()", x.clock(), 7);
        check.due("ageOf(2)", x.ageOf(2), 0);
    }

    /** Left with the greatest numbers first, then the TRANSITION's ACTION, then ENTERED. */
    private static void orderOfActions() {
        // what is turned from ADD to SET step by step tells which ACTIONS came behind it
        PuppetTheatre x = Check.chart(0, 0, 1, 0, 0, 0, 3, 0);
        x.addTransition(2, 0, 0, 4);
        x.setDoing(2, true, 1, 0, 1);
        x.setDoing(1, true, 2, 0, 10);
        x.setAction(0, 2, 0, 20);
        x.setDoing(3, false, 2, 0, 30);
        x.setDoing(4, false, 1, 1, 5);
        x.start();
        x.send(0);
        check.due("2 is left, 1 is left, ACTION, 3 is ENTERED", x.variable(0), 61);
        x.stop();
        x.setDoing(1, true, 1, 0, 2);
        x.start();
        x.send(0);
        check.due("1 is left behind 2", x.variable(0), 52);
        x.stop();
        x.setAction(0, 1, 0, 3);
        x.start();
        x.send(0);
        check.due("the ACTION comes behind what is left", x.variable(0), 33);
        x.stop();
        x.setDoing(3, false, 1, 0, 4);
        x.start();
        x.send(0);
        check.due("3 is ENTERED behind the ACTION", x.variable(0), 4);
        x.stop();
        x.setDoing(4, false, 1, 0, 5);
        x.start();
        x.send(0);
        check.due("4 is ENTERED behind 3", x.variable(0), 5);
    }

    /** From the LEAF upward, and there the smallest number; GUARDS are looked at ahead of ACTIONS. */
    private static void nearestIsChosen() {
        PuppetTheatre x = Check.chart(0, 0, 1, 0, 1, 0);
        x.addTransition(0, 0, 0, -1);
        x.addTransition(1, 0, 0, -1);
        x.addTransition(2, 0, 0, -1);
        x.addTransition(2, 0, 0, 3);
        x.setGuard(2, 1, 0, 1);
        x.setAction(2, 2, 0, 1);
        x.setGuard(3, 1, 0, 2);
        x.setAction(3, 2, 0, 1);
        x.start();
        check.due("send(0)", x.send(0), 1);
        check.due("fired(2)", x.fired(2), 1);
        check.due("send(0)", x.send(0), 1);
        check.due("fired(3)", x.fired(3), 1);
        check.due("active()", x.active(), set(0, 1, 3));
        x.send(0);
        check.due("fired(1)", x.fired(1), 1);
        check.due("fired(0)", x.fired(0), 0);
    }

    /** A SCOPE is above both STATES, so a STATE is left and ENTERED anew. */
    private static void selfAndOutward() {
        PuppetTheatre x = Check.chart(0, 0, 1, 0, 1, 0);
        x.addTransition(1, 0, 0, 1);
        x.addTransition(1, 0, 1, 3);
        x.addTransition(3, 0, 2, 1);
        x.setDoing(1, true, 2, 0, 1);
        x.setDoing(1, false, 2, 1, 1);
        x.start();
        x.tick(5);
        check.due("to itself", x.send(0), 1);
        check.due("ageOf(1)", x.ageOf(1), 0);
        check.due("left", x.variable(0), 1);
        check.due("ENTERED", x.variable(1), 2);
        check.due("to one beneath", x.send(1), 1);
        check.due("active()", x.active(), set(0, 1, 3));
        check.due("left", x.variable(0), 2);
        check.due("to its PARENT", x.send(2), 1);
        check.due("active()", x.active(), set(0, 1, 2));
        check.due("left", x.variable(0), 3);
        check.due("ENTERED", x.variable(1), 4);
    }

    /** 1 BROAD { 2 { 3, 4 }, 5 { 6, 7 }, 8 BROAD { 9, 10 } }, 11. */
    private static PuppetTheatre broad() {
        return Check.chart(0, 1, 1, 0, 2, 0, 2, 0, 1, 0, 5, 0, 5, 0, 1, 1,
                8, 0, 8, 0, 0, 0);
    }

    private static void broadWays() {
        PuppetTheatre x = broad();
        x.addTransition(3, 0, 0, 4);
        x.addTransition(6, 0, 0, 7);
        x.addTransition(1, 0, 1, 11);
        x.addTransition(11, 0, 2, 7);
        x.addTransition(11, 0, 3, 9);
        x.addTransition(7, 0, 4, 10);
        x.addTransition(1, 0, 5, -1);
        x.start();
        check.due("all PARTS are FILLED", x.active(), set(0, 1, 2, 3, 5, 6, 8, 9, 10));
        x.tick(2);
        check.due("one in each of two", x.send(0), 2);
        check.due("active()", x.active(), set(0, 1, 2, 4, 5, 7, 8, 9, 10));
        check.due("ageOf(2)", x.ageOf(2), 2);
        check.due("ageOf(4)", x.ageOf(4), 0);
        check.due("CHOSEN by four LEAVES, it comes once", x.send(5), 1);
        check.due("out of all", x.send(1), 1);
        check.due("active()", x.active(), set(0, 11));
        check.due("into one beneath a PART", x.send(2), 1);
        check.due("the others are FILLED", x.active(), set(0, 1, 2, 3, 5, 7, 8, 9, 10));
        x.send(1);
        check.due("into one beneath two BROAD ones", x.send(3), 1);
        check.due("the others are FILLED", x.active(), set(0, 1, 2, 3, 5, 6, 8, 9, 10));
        x.send(1);
        x.send(2);
        x.tick(1);
        check.due("across the BROAD one: the SCOPE is the ROOT", x.send(4), 1);
        check.due("all is ENTERED anew", x.active(), set(0, 1, 2, 3, 5, 6, 8, 9, 10));
        check.due("ageOf(1)", x.ageOf(1), 0);
        check.due("ageOf(0)", x.ageOf(0), 3);
    }

    /** The outer one comes first, by the smaller LEAF; the inner one is taken for it. */
    private static void innerOneWins() {
        PuppetTheatre x = broad();
        x.addTransition(1, 0, 0, 11);
        x.addTransition(6, 0, 0, 7);
        x.setAction(0, 1, 0, 1);
        x.setAction(1, 1, 1, 1);
        x.start();
        check.due("send(0)", x.send(0), 1);
        check.due("active()", x.active(), set(0, 1, 2, 3, 5, 7, 8, 9, 10));
        check.due("the outer one's ACTION", x.variable(0), 0);
        check.due("the inner one's ACTION", x.variable(1), 1);
        check.due("fired(0)", x.fired(0), 0);
        check.due("fired(1)", x.fired(1), 1);
        check.due("no inner one is OPEN any more", x.send(0), 1);
        check.due("active()", x.active(), set(0, 11));
    }

    /** What was taken and is not any more stands in nobody's way. */
    private static void innerOneWinsLater() {
        PuppetTheatre x = Check.chart(0, 1, 1, 1, 2, 0, 2, 0, 4, 0, 4, 0, 1, 0,
                7, 0, 7, 0, 0, 0);
        // LEAF 3 brings 0 (of 2, out of all), LEAF 5 brings 1 (of 5, for 0), LEAF 8 brings 2
        x.addTransition(2, 0, 0, 10);
        x.addTransition(5, 0, 0, 6);
        x.addTransition(8, 0, 0, 9);
        x.start();
        check.due("active()", x.active(), set(0, 1, 2, 3, 4, 5, 7, 8));
        check.due("send(0)", x.send(0), 2);
        check.due("active()", x.active(), set(0, 1, 2, 3, 4, 6, 7, 9));
        check.due("send(0): 0 alone is OPEN", x.send(0), 1);
        check.due("active()", x.active(), set(0, 10));
    }

    /** Neither STATE is beneath the other: the first one stays; one to none is in nobody's way. */
    private static void outerOneComesLater() {
        PuppetTheatre x = broad();
        x.addTransition(3, 0, 0, 4);
        x.addTransition(6, 0, 0, 11);
        x.addTransition(9, 0, 0, -1);
        x.setAction(2, 1, 0, 1);
        x.start();
        check.due("send(0)", x.send(0), 2);
        check.due("active()", x.active(), set(0, 1, 2, 4, 5, 6, 8, 9, 10));
        check.due("the one to none", x.variable(0), 1);
        check.due("send(0)", x.send(0), 2);
        check.due("active()", x.active(), set(0, 11));
    }

    /** 0 is taken and is not any more; 1, which came between, stays and keeps its turn. */
    private static void onesBetweenStay() {
        for (int turn = 0; turn < 2; turn++) {
            PuppetTheatre x = broad();
            x.addTransition(1, 0, 0, 11);
            x.addTransition(6, 0, 0, -1);
            x.addTransition(9, 0, 0, 9);
            x.setAction(0, 2, 1, 1);
            x.setAction(1, 2, 0, 60);
            x.setAction(2, 2, 0, turn == 0 ? 60 : -60);
            x.setDoing(0, false, 1, 0, turn == 0 ? -60 : 60);
            x.start();
            x.tick(1);
            check.due("send(0)", x.send(0), 2);
            check.due("fired(0)", x.fired(0), 0);
            check.due("fired(1)", x.fired(1), 1);
            check.due("fired(2)", x.fired(2), 1);
            check.due("variable(1)", x.variable(1), 0);
            check.due("the ACTION of 1 comes first", x.variable(0), turn == 0 ? 60 : 39);
            check.due("all is left, and ENTERED anew", x.ageOf(1), 0);
            check.due("active()", x.active(), set(0, 1, 2, 3, 5, 6, 8, 9, 10));
        }
    }

    /** The LEAVES bring 0, 1, 0, 0: it FIRES once. */
    private static void eachComesOnce() {
        PuppetTheatre x = broad();
        x.addTransition(1, 0, 0, -1);
        x.addTransition(6, 0, 0, -1);
        x.setAction(0, 2, 0, 1);
        x.start();
        check.due("send(0)", x.send(0), 2);
        check.due("variable(0)", x.variable(0), 1);
    }

    private static void twentyStates() {
        PuppetTheatre x = new PuppetTheatre();
        x.addState(0, 0);
        for (int s = 2; s < 20; s++) {
            x.addState(s - 1, s == 19 ? 4 : 0);
        }
        x.addTransition(1, 0, 0, 18);
        x.setDoing(18, true, 1, 0, 7);
        x.start();
        check.due("active()", x.active(), (1 << 19) - 1);
        x.tick(1);
        check.due("send(0)", x.send(0), 1);
        check.due("active()", x.active(), (1 << 19) - 1);
        check.due("ageOf(18)", x.ageOf(18), 0);
        check.due("variable(0)", x.variable(0), 7);
        check.due("record(19)", x.record(19), 0);
    }

    private static void twentyStatesSideBySide() {
        PuppetTheatre x = new PuppetTheatre();
        x.addState(0, 1);
        for (int s = 2; s < 20; s++) {
            x.addState(1, s % 2);
        }
        x.addTransition(19, 0, 0, 19);
        x.start();
        check.due("active()", x.active(), (1 << 20) - 1);
        x.tick(1);
        check.due("send(0)", x.send(0), 1);
        check.due("active()", x.active(), (1 << 20) - 1);
        check.due("ageOf(2)", x.ageOf(2), 0);
    }

    private static void shallowHistory() {
        PuppetTheatre x = Check.chart(0, 0, 1, 0, 1, 0, 3, 0, 3, 0, 1, 3, 0, 0);
        x.addTransition(2, 0, 0, 5);
        x.addTransition(1, 0, 1, 7);
        x.addTransition(7, 0, 2, 6);
        x.start();
        x.send(0);
        check.due("active()", x.active(), set(0, 1, 3, 5));
        x.send(1);
        check.due("the PARTS that are ACTIVE", x.record(6), set(3));
        x.send(2);
        check.due("the PART is FILLED", x.active(), set(0, 1, 3, 4));
        check.due("record(6)", x.record(6), set(3));
    }

    private static void deepHistory() {
        PuppetTheatre x = Check.chart(0, 0, 1, 0, 1, 1, 3, 0, 4, 0, 4, 0, 3, 0,
                1, 4, 0, 0);
        x.addTransition(2, 0, 0, 6);
        x.addTransition(1, 0, 1, 9);
        x.addTransition(9, 0, 2, 8);
        x.addTransition(6, 0, 3, 8);
        x.start();
        x.send(0);
        check.due("active()", x.active(), set(0, 1, 3, 4, 6, 7));
        x.send(1);
        check.due("the LEAVES that are ACTIVE", x.record(8), set(6, 7));
        x.send(2);
        check.due("all of them", x.active(), set(0, 1, 3, 4, 6, 7));
        x.tick(1);
        check.due("from within: the SCOPE is its PARENT", x.send(3), 1);
        check.due("active()", x.active(), set(0, 1, 3, 4, 6, 7));
        check.due("ageOf(1)", x.ageOf(1), 1);
        check.due("ageOf(3)", x.ageOf(3), 0);
    }

    /** The RECORD is made in the very STEP that goes INTO it. */
    private static void historyOfBroad() {
        PuppetTheatre x = Check.chart(0, 1, 1, 0, 2, 0, 2, 0, 1, 0, 1, 4, 1, 3);
        x.addTransition(3, 0, 0, 4);
        x.addTransition(4, 0, 1, 6);
        x.addTransition(4, 0, 2, 7);
        x.start();
        x.send(0);
        check.due("record(6)", x.record(6), 0);
        x.tick(1);
        x.send(1);
        check.due("record(6)", x.record(6), set(4, 5));
        check.due("record(7)", x.record(7), set(2, 5));
        check.due("active()", x.active(), set(0, 1, 2, 4, 5));
        check.due("ageOf(1)", x.ageOf(1), 0);
        x.send(2);
        check.due("active()", x.active(), set(0, 1, 2, 3, 5));
        check.due("record(6)", x.record(6), set(4, 5));
    }

    private static void historyWithoutRecord() {
        PuppetTheatre x = Check.chart(0, 0, 0, 0, 2, 0, 2, 0, 2, 3, 0, 3, 2, 0);
        x.addTransition(1, 0, 0, 5);
        x.addTransition(4, 0, 1, 5);
        x.addTransition(3, 0, 2, 4);
        x.addTransition(2, 0, 3, 6);
        x.setDoing(2, false, 2, 0, 1);
        x.start();
        check.due("INTO its PARENT", x.send(0), 1);
        check.due("active()", x.active(), set(0, 2, 3));
        check.due("ENTERED", x.variable(0), 1);
        x.send(2);
        x.tick(1);
        check.due("the SCOPE is its PARENT", x.send(1), 1);
        check.due("FIRST is FILLED", x.active(), set(0, 2, 3));
        check.due("not ENTERED again", x.variable(0), 1);
        check.due("ageOf(2)", x.ageOf(2), 1);
        check.due("its PARENT is the ROOT", x.send(3), 1);
        check.due("FIRST of the ROOT", x.active(), set(0, 1));
        check.due("record(6)", x.record(6), 0);
        check.due("record(5)", x.record(5), set(3));
    }

    /** A STATE with MARKS alone is a LEAF; their RECORDS are empty, so they are none. */
    private static void marksOnly() {
        PuppetTheatre x = Check.chart(0, 0, 1, 3, 1, 4, 0, 0);
        x.addTransition(1, 0, 0, 4);
        x.addTransition(4, 0, 1, 2);
        x.addTransition(4, 0, 2, 3);
        check.due("how many PARTS", x.ofState(1, 3), 0);
        x.start();
        x.send(0);
        check.due("record(2)", x.record(2), 0);
        check.due("record(3)", x.record(3), 0);
        x.send(1);
        check.due("active()", x.active(), set(0, 1));
        x.send(0);
        x.send(2);
        check.due("active()", x.active(), set(0, 1));
    }

    private static void ended() {
        PuppetTheatre x = Check.chart(0, 1, 1, 0, 2, 0, 2, 2, 1, 0, 5, 0, 5, 2, 0, 0);
        x.addTransition(3, 0, 0, 4);
        x.addTransition(6, 0, 1, 7);
        x.addTransition(1, 2, 0, 8);
        x.addTransition(2, 2, 0, -1);
        x.setGuard(3, 1, 0, 1);
        x.setAction(3, 1, 0, 1);
        x.start();
        check.due("a PLAIN one is ENDED", x.send(0), 2);
        check.due("isEnded(2)", x.isEnded(2), true);
        check.due("isEnded(1)", x.isEnded(1), false);
        check.due("the BROAD one is ENDED", x.send(1), 2);
        check.due("active()", x.active(), set(0, 8));
    }

    /** RAISED events come one by one, each behind what FIRES by itself. */
    private static void queue() {
        PuppetTheatre x = Check.chart(0, 0, 0, 0, 0, 0);
        x.addTransition(1, 0, 0, 2);
        x.setAction(0, 3, 5, 0);
        x.setDoing(1, true, 3, 4, 0);
        x.setDoing(2, false, 3, 6, 0);
        x.addTransition(2, 3, 0, -1);
        x.setGuard(1, 2, 0, 0);
        x.setAction(1, 1, 0, 1);
        x.addTransition(2, 0, 4, -1);
        x.setGuard(2, 2, 0, 1);
        x.setAction(2, 1, 0, 2);
        x.addTransition(2, 0, 5, -1);
        x.setGuard(3, 2, 0, 2);
        x.setAction(3, 1, 0, 3);
        x.addTransition(2, 0, 6, 3);
        x.setGuard(4, 2, 0, 3);
        x.start();
        check.due("send(0)", x.send(0), 5);
        check.due("active()", x.active(), set(0, 3));
        check.due("lost()", x.lost(), 0);
        check.due("restless()", x.restless(), 0);
    }

    /** Nine events for eight places: the ninth one is LOST. */
    private static void queueIsFull() {
        PuppetTheatre x = new PuppetTheatre();
        x.addState(0, 1);
        for (int s = 2; s <= 9; s++) {
            x.addState(1, 0);
            x.setDoing(s, false, 3, s, 0);
        }
        x.setDoing(1, false, 3, 1, 0);
        for (int e = 1; e <= 9; e++) {
            x.addTransition(1, 0, e, -1);
        }
        check.due("start()", x.start(), 8);
        check.due("lost()", x.lost(), 1);
        check.due("fired(7)", x.fired(7), 1);
        check.due("fired(8)", x.fired(8), 0);
    }

    private static void queueIsLostAsOver() {
        PuppetTheatre x = Check.chart(0, 0, 0, 2);
        x.addTransition(1, 0, 0, 2);
        x.setDoing(1, true, 3, 1, 0);
        x.setAction(0, 3, 1, 0);
        x.setDoing(2, false, 3, 1, 0);
        x.addTransition(0, 0, 1, -1);
        x.start();
        check.due("send(0)", x.send(0), 1);
        check.due("lost()", x.lost(), 3);
        check.due("fired(1)", x.fired(1), 0);
        check.due("restless()", x.restless(), 0);
    }

    /** Behind the 12th STEP that FIRES it stops, also if nothing would FIRE any more. */
    private static void restless() {
        for (int most = 10; most <= 13; most++) {
            PuppetTheatre x = Check.chart(0, 0, 0, 0);
            x.addTransition(1, 0, 0, 2);
            x.setAction(0, 3, 7, 0);
            x.addTransition(2, 3, 0, -1);
            x.setGuard(1, 1, 0, most);
            x.setAction(1, 2, 0, 1);
            x.addTransition(2, 0, 8, -1);
            x.start();
            int count = Math.min(12, most + 1);
            check.due("send(0) of " + most, x.send(0), count);
            check.due("variable(0)", x.variable(0), count - 1);
            check.due("restless()", x.restless(), count == 12 ? 1 : 0);
            check.due("the event of the QUEUE is LOST", x.lost(), count == 12 ? 1 : 0);
            check.due("send(8): what was left over FIRES", x.send(8), 1 + most - (count - 1));
        }
    }

    /** Each tick has its own twelve STEPS, and further ones come all the same. */
    private static void restlessTicks() {
        PuppetTheatre x = Check.chart(0, 0, 0, 0);
        x.addTransition(1, 1, 1, 2);
        x.addTransition(2, 3, 0, -1);
        x.setAction(1, 2, 0, 1);
        x.start();
        check.due("tick(1)", x.tick(1), 12);
        check.due("variable(0)", x.variable(0), 11);
        check.due("tick(3): no AFTER, so twelve by itself in each", x.tick(3), 36);
        check.due("restless()", x.restless(), 4);
        check.due("clock()", x.clock(), 4);
    }

    /** OVER by the 12th STEP: it is not RESTLESS. */
    private static void overAtTwelfth() {
        PuppetTheatre x = Check.chart(0, 0, 0, 2);
        x.addTransition(1, 3, 0, -1);
        x.setGuard(0, 1, 0, 11);
        x.setAction(0, 2, 0, 1);
        x.addTransition(1, 3, 0, 2);
        x.setAction(1, 3, 0, 0);
        check.due("start()", x.start(), 12);
        check.due("isOver()", x.isOver(), true);
        check.due("restless()", x.restless(), 0);
        check.due("lost()", x.lost(), 1);
    }
}
