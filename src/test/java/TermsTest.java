/**
 * The Terms: 1 STATES, 2 VARIABLES, 3 TRANSITIONS, 4 WHAT IS ACTIVE, 5 A STEP, the two blocks of text
 * in them, and what stands around them. What is refused stands in RefusalTest.
 */
public final class TermsTest {
    private static final Check check = new Check();

    public static void main(String[] args) {
        sets();
        calls512();
        states();
        kinds();
        beneath();
        parts();
        leaves();
        first();
        variables();
        add();
        raise();
        raiseBehindTaken();
        actionsAtFirst();
        transitions();
        events();
        after();
        afterIsOfTicksAlone();
        endedAndAlways();
        guards();
        fill();
        into();
        broadWays();
        markWithoutRecord();
        markOfScope();
        markWithEmptyRecord();
        history();
        deepHistory();
        historyOfBroad();
        recordOfEnd();
        marksOfRoot();
        over();
        ended();
        nearestIsChosen();
        scope();
        scopeIsNotBroad();
        toNone();
        innerOneIsTaken();
        goneOneIsNoHindrance();
        firstOneStays();
        beneathOneOfTwo();
        onesBetweenStay();
        eachComesOnce();
        notTakenComesNotAgain();
        order();
        recordsAheadOfLeaving();
        bothAtOnce();
        queue();
        eventsThatFireNothing();
        queueIsLostAsOver();
        twelfthStep();
        twelfthStepByTicks();
        silentEventsDoNotCount();
        severalInAStep();
        overAtTwelfth();
        age();
        check.end();
    }

    private static int set(int... states) {
        return Check.set(states);
    }

    // ---- around the terms

    private static void sets() {
        // Terms: "Sets are told as numbers: the sum of 2^k for each k in it."
        PuppetTheatre x = Check.chart(0, 0, 1, 3, 0, 0);
        while (x.states() < 20) {
            x.addState(1, 0);
        }
        x.addTransition(1, 0, 0, 19);
        x.addTransition(1, 0, 9, 3);
        check.due("none", x.active(), 0);
        x.start();
        check.due("0, 1, 4", x.active(), 1 + 2 + 16);
        check.due("events 0 and 9", x.open(), 1 + 512);
        check.due("wouldBe(0)", x.wouldBe(0), 1 + 2 + 524288);
        x.send(0);
        x.send(9);
        check.due("0, 3", x.active(), 1 + 8);
        check.due("STATE 19", x.record(2), 524288);
    }

    private static void calls512() {
        // Terms: "An object is used for at most 512 calls after it has been made"
        // every STEP FIRES and RAISES: 12 STEPS and 12 LOST events in each of 508 times 50 ticks
        long all = 12 + 508 * 600;
        for (int asked = 0; asked < 7; asked++) {
            PuppetTheatre x = new PuppetTheatre();
            x.addTransition(0, 3, 0, -1);
            x.setAction(0, 3, 9, 0);
            check.due("call 3: start()", x.start(), 12);
            for (int call = 4; call < 512; call++) {
                check.due("call " + call + ": tick(50)", x.tick(50), 600);
            }
            switch (asked) {
                case 0: check.due("call 512: tick(50)", x.tick(50), 600); break;
                case 1: check.due("call 512: fired(0)", x.fired(0), all); break;
                case 2: check.due("call 512: lost()", x.lost(), all); break;
                case 3: check.due("call 512: restless()", x.restless(), 1 + 508 * 50); break;
                case 4: check.due("call 512: clock()", x.clock(), 508 * 50); break;
                case 5: check.due("call 512: ageOf(0)", x.ageOf(0), 508 * 50); break;
                default: check.due("call 512: meanAge()", x.meanAge(), 25400.0); break;
            }
        }
    }

    // ---- 1 STATES

    private static void states() {
        // Terms 1: "the STATE 0, the ROOT, is there from the beginning, and is PLAIN"
        check.due("states()", new PuppetTheatre().states(), 1);
        check.due("the kind of the ROOT", new PuppetTheatre().ofState(0, 0), 0);
        // Terms 1: "At most 20, numbered from 0"
        for (int shape = 0; shape < 3; shape++) {
            PuppetTheatre x = Check.chart(0, 1);
            for (int s = 2; s < 20; s++) {
                // all in the ROOT; all in a BROAD one; each one in the one ahead of it
                int parent = shape == 0 ? 0 : shape == 1 ? 1 : s - 1;
                check.due("the next of shape " + shape, x.addState(parent, 0), s);
            }
            check.dueThrow("the 21st", IllegalStateException.class, () -> x.addState(0, 0));
            check.due("states()", x.states(), 20);
            x.addTransition(19, 0, 0, 19);
            x.addTransition(1, 0, 1, 19);
            x.start();
            check.due("active() of shape " + shape, x.active(), shape == 0 ? 3 : (1 << 20) - 1);
            x.tick(1);
            check.due("from 1 to 19", x.send(1), 1);
            check.due("STATE 19 is ENTERED", x.ageOf(19), 0);
            check.due("from 19 to 19", x.send(0), 1);
            check.due("active() of shape " + shape, x.active(), shape == 0 ? 1 + (1 << 19) : (1 << 20) - 1);
        }
    }

    private static void kinds() {
        // Terms 1: "of a kind: 0 PLAIN, 1 BROAD, 2 an END, 3 a HISTORY, 4 a DEEP history (3 and 4 are MARKS)"
        // Terms 1: "Each other one is in another one, its PARENT, with a smaller number"
        PuppetTheatre x = Check.chart(0, 0, 0, 1, 0, 2, 0, 3, 0, 4);
        for (int kind = 0; kind <= 4; kind++) {
            check.due("the kind of " + (kind + 1), x.ofState(kind + 1, 0), kind);
            check.due("its PARENT", x.ofState(kind + 1, 1), 0);
        }
        check.due("a HISTORY has a RECORD", x.record(4), 0);
        check.due("a DEEP one has a RECORD", x.record(5), 0);
        check.dueThrow("one in itself", IndexOutOfBoundsException.class, () -> x.addState(6, 0));
        check.due("in the one ahead of it", x.addState(2, 0), 6);
    }

    private static void beneath() {
        // Terms 1: "What is in a STATE, and in these, and so on, is BENEATH it"
        // each one in the one ahead of it, 0 to 18, and 19 in 17: each transition LEAVES what is beneath
        for (int from = 1; from < 18; from++) {
            PuppetTheatre x = new PuppetTheatre();
            for (int s = 1; s < 19; s++) {
                x.addState(s - 1, 0);
            }
            x.addState(17, 0);
            x.addTransition(from, 0, 0, 19);
            x.start();
            x.tick(1);
            check.due("from " + from, x.send(0), 1);
            check.due("active()", x.active(), (1 << 18) - 1 + (1 << 19));
            for (int s = 0; s < 18; s++) {
                check.due("AGE of " + s, x.ageOf(s), s < from ? 1 : 0);
            }
        }
    }

    private static void parts() {
        // Terms 1: "PARTS of a STATE are those whose PARENT it is, but MARKS."
        PuppetTheatre x = Check.chart(0, 1, 1, 0, 1, 1, 1, 3, 1, 4, 2, 0, 0, 2, 0, 3);
        int[] due = {2, 2, 1, 0, 0, 0, 0, 0, 0};
        for (int s = 0; s < due.length; s++) {
            check.due("how many PARTS " + s + " has", x.ofState(s, 3), due[s]);
        }
        PuppetTheatre y = new PuppetTheatre();
        for (int s = 1; s < 20; s++) {
            y.addState(0, 0);
            check.due("how many PARTS the ROOT has", y.ofState(0, 3), s);
        }
    }

    private static void leaves() {
        // Terms 1: "A STATE without PARTS, that is no MARK, is a LEAF."
        // 0 { 1 BROAD { 2, 3 BROAD, 4 { 5 END }, 6 { 7 HISTORY }, 8 BROAD { 9 DEEP }, 10 DEEP }, 11 }
        PuppetTheatre x = Check.chart(0, 1, 1, 0, 1, 1, 1, 0, 4, 2, 1, 0, 6, 3, 1, 1, 8, 4, 1, 4, 0, 0);
        x.addTransition(1, 0, 0, 11);
        int[] open = {2, 3, 4, 6, 8};
        for (int s : open) {
            x.addTransition(s, 0, 1, -1);
        }
        x.start();
        check.due("active()", x.active(), set(0, 1, 2, 3, 4, 5, 6, 8));
        check.due("each LEAF has its CHOSEN one", x.send(1), 5);
        x.send(0);
        check.due("the LEAVES", x.record(10), set(2, 3, 5, 6, 8));
        for (int mark = 0; mark < 2; mark++) {
            PuppetTheatre y = mark == 0 ? new PuppetTheatre() : Check.chart(0, 3);
            y.addTransition(0, 0, 0, -1);
            y.start();
            check.due("the ROOT is one", y.send(0), 1);
            y.stop();
            y.addState(0, 0);
            y.addTransition(y.states() - 1, 0, 0, -1);
            y.start();
            check.due("its PART is one", y.send(0), 1);
            check.due("and no more the ROOT", y.fired(0), 0);
        }
    }

    private static void first() {
        // Terms 1: "FIRST of a PLAIN one with PARTS is the PART that is set so, at first the one with the smallest number."
        PuppetTheatre x = Check.chart(0, 0, 1, 3, 1, 4);
        check.due("with MARKS alone", x.ofState(1, 2), -1);
        x.addState(1, 2);
        check.due("the smallest number but MARKS", x.ofState(1, 2), 4);
        x.addState(1, 0);
        check.due("still the smallest", x.ofState(1, 2), 4);
        x.setFirst(1, 5);
        x.addState(1, 1);
        check.due("the one that is set", x.ofState(1, 2), 5);
        x.setFirst(1, 6);
        check.due("set once more", x.ofState(1, 2), 6);
        x.start();
        check.due("it is FILLED", x.active(), set(0, 1, 6));
        x.stop();
        check.due("it stays", x.ofState(1, 2), 6);
        check.due("of the ROOT", x.ofState(0, 2), 1);
    }

    // ---- 2 VARIABLES

    private static void variables() {
        // Terms 2: "There are 4, 0 to 3, each a number, -99 to 99."
        // Terms 2: "1 SET v n: v is n"
        int[] numbers = {-99, -98, -1, 0, 1, 98, 99};
        for (int v = 0; v < 4; v++) {
            for (int n : numbers) {
                PuppetTheatre x = new PuppetTheatre();
                x.setDoing(0, false, 1, v, 7);
                x.addTransition(0, 0, 0, -1);
                x.setAction(0, 1, v, n);
                x.start();
                x.send(0);
                for (int other = 0; other < 4; other++) {
                    check.due("SET " + v + " " + n + ": " + other, x.variable(other), other == v ? n : 0);
                }
            }
        }
    }

    private static void add() {
        // Terms 2: "2 ADD v n: v is n more, but kept from -99 to 99"
        int[][] sums = {{98, 1, 99}, {98, 2, 99}, {99, 1, 99}, {99, 99, 99}, {1, 99, 99}, {0, 99, 99},
            {-98, -1, -99}, {-98, -2, -99}, {-99, -1, -99}, {-99, -99, -99}, {-1, -99, -99}, {0, -99, -99},
            {99, -1, 98}, {-99, 1, -98}, {99, -99, 0}, {-99, 99, 0}, {50, 0, 50}, {99, 0, 99}, {-99, 0, -99}};
        for (int[] sum : sums) {
            for (int v = 0; v < 4; v++) {
                PuppetTheatre x = new PuppetTheatre();
                x.setDoing(0, false, 1, v, sum[0]);
                x.addTransition(0, 0, 0, -1);
                x.setAction(0, 2, v, sum[1]);
                x.start();
                x.send(0);
                for (int other = 0; other < 4; other++) {
                    String what = "variable " + other + " of " + sum[0] + ", ADD " + v + " " + sum[1];
                    check.due(what, x.variable(other), other == v ? sum[2] : 0);
                }
            }
        }
        // each sum is kept, not the last one: 60 + 60 - 60
        PuppetTheatre y = Check.chart(0, 0, 1, 0);
        y.setDoing(0, false, 2, 0, 60);
        y.setDoing(1, false, 2, 0, 60);
        y.setDoing(2, false, 2, 0, -60);
        y.start();
        check.due("99 - 60", y.variable(0), 39);
    }

    private static void raise() {
        // Terms 2: "3 RAISE e: the event e is put behind the QUEUE; if there are 8 in it, it is LOST"
        // Terms 2: "Events are 0 to 9."
        for (int count = 0; count <= 10; count++) {
            for (int turn = 0; turn < 2; turn++) {
                PuppetTheatre x = new PuppetTheatre();
                for (int s = 1; s <= count; s++) {
                    x.addState(s - 1, 0);
                    x.setDoing(s, false, 3, turn == 0 ? s - 1 : 10 - s, 0);
                }
                for (int e = 0; e < 10; e++) {
                    x.addTransition(0, 0, e, -1);
                }
                check.due("start() with " + count, x.start(), Math.min(count, 8));
                check.due("lost() of " + count, x.lost(), Math.max(count - 8, 0));
                for (int place = 0; place < 10; place++) {
                    int event = turn == 0 ? place : 9 - place;
                    check.due("event " + event, x.fired(event), place < Math.min(count, 8) ? 1 : 0);
                }
                check.due("restless()", x.restless(), 0);
            }
        }
    }

    private static void raiseBehindTaken() {
        // Terms 2: "3 RAISE e: the event e is put behind the QUEUE; if there are 8 in it, it is LOST"
        // the first of eight is taken out as one or two more are RAISED: there is a place for one
        for (int more = 1; more <= 2; more++) {
            PuppetTheatre x = Check.chart(0, 1);
            for (int e = 0; e < 8; e++) {
                x.setDoing(x.addState(1, 0), false, 3, e, 0);
            }
            x.addTransition(0, 0, 9, -1);
            for (int i = 0; i < more; i++) {
                int raising = x.addTransition(2 + i, 0, 0, -1);
                x.setAction(raising, 3, 9, 0);
            }
            check.due("start()", x.start(), more + 1);
            check.due("the event behind the QUEUE", x.fired(0), 1);
            check.due("lost()", x.lost(), more - 1);
        }
    }

    private static void actionsAtFirst() {
        // Terms 2: "An ACTION is 0 nothing"
        // Terms 2: "A STATE has an ACTION for entering and one for leaving it (nothing, at first)."
        // Terms 3: "and an ACTION, nothing at first"
        for (int turn = 0; turn < 2; turn++) {
            PuppetTheatre x = Check.chart(0, 0, 0, 0);
            x.addTransition(1, 0, 0, 2);
            for (int s = 0; s < 3; s++) {
                check.due("entering " + s, x.setDoing(s, false, 0, 0, 0), 0);
                check.due("leaving " + s, x.setDoing(s, true, 0, 0, 0), 0);
            }
            check.due("of the TRANSITION", x.setAction(0, 0, 0, 0), 0);
            for (int s = 0; turn == 1 && s < 3; s++) {
                x.setDoing(s, false, 1, 0, 5);
                x.setDoing(s, false, 0, 0, 5);
                x.setDoing(s, true, 3, 1, 5);
                x.setDoing(s, true, 0, 1, 5);
                x.setAction(0, 2, 1, 5);
                x.setAction(0, 0, 1, 5);
            }
            x.addTransition(0, 0, 1, -1);
            x.start();
            check.due("send(0)", x.send(0), 1);
            check.due("variable(0)", x.variable(0), 0);
            check.due("variable(1)", x.variable(1), 0);
            check.due("nothing was RAISED", x.fired(1), 0);
        }
    }

    // ---- 3 TRANSITIONS

    private static void transitions() {
        // Terms 3: "At most 30, numbered from 0, each from a STATE that is PLAIN or BROAD"
        PuppetTheatre x = Check.chart(0, 1);
        for (int t = 0; t < 30; t++) {
            check.due("the next", x.addTransition(t % 2, 0, t % 10, -1), t);
            // each but the last three of an event is kept from firing
            x.setGuard(t, 2, 0, t < 27 ? 1 : 0);
        }
        check.dueThrow("the 31st", IllegalStateException.class, () -> x.addTransition(0, 0, 0, -1));
        check.due("transitions()", x.transitions(), 30);
        x.start();
        check.due("open()", x.open(), set(7, 8, 9));
        check.due("send(9)", x.send(9), 1);
        check.due("fired(29)", x.fired(29), 1);
        check.due("rowFor(28, 1)", x.rowFor(28, 1), 1);
        check.due("covered()", x.covered(), 1);
        // Terms 3: "to a STATE but the ROOT, or to none"
        PuppetTheatre y = Check.chart(0, 0, 0, 1, 0, 2, 0, 3, 0, 4);
        for (int to = 1; to < 6; to++) {
            check.due("to " + to, y.addTransition(1, 0, to, to), to - 1);
        }
        check.due("to none", y.addTransition(1, 0, 0, -1), 5);
        check.dueThrow("to the ROOT", IllegalArgumentException.class, () -> y.addTransition(1, 0, 0, 0));
        int[] due = {set(0, 1), set(0, 1), set(0, 2), set(0, 3), set(0, 1), set(0, 1)};
        y.start();
        for (int event = 0; event < 6; event++) {
            check.due("wouldFire(" + event + ")", y.wouldFire(event), 1);
            check.due("wouldBe(" + event + ")", y.wouldBe(event), due[event]);
        }
    }

    private static void events() {
        // Terms 3: "0 EVENT n (0 to 9)"
        for (int n = 0; n <= 9; n++) {
            PuppetTheatre x = Check.chart(0, 0);
            x.addTransition(1, 0, n, -1);
            check.due("start()", x.start(), 0);
            for (int event = 0; event <= 9; event++) {
                check.due("EVENT " + n + ", send(" + event + ")", x.send(event), event == n ? 1 : 0);
            }
            check.due("tick(50)", x.tick(50), 0);
            check.due("open()", x.open(), 1 << n);
        }
    }

    private static void after() {
        // Terms 3: "with a TRIGGER: 0 EVENT n (0 to 9), 1 AFTER n (1 to 50)"
        // Terms 5: "AFTER: if the AGE of its STATE is n"
        for (int n = 1; n <= 50; n++) {
            PuppetTheatre x = Check.chart(0, 0);
            x.addTransition(n % 2, 1, n, -1);
            check.due("start()", x.start(), 0);
            for (int age = 1; age <= 52; age++) {
                check.due("AFTER " + n + " at " + age, x.tick(1), age == n ? 1 : 0);
            }
            check.due("tick(50)", x.tick(50), 0);
            x.stop();
            x.start();
            check.due("in one call, as many ticks", x.tick(n), 1);
            x.stop();
            x.start();
            check.due("in one call, one less", n == 1 ? 0 : x.tick(n - 1), 0);
            check.due("and that one", x.tick(1), 1);
        }
    }

    private static void afterIsOfTicksAlone() {
        // Terms 5: "its TRIGGER is that (EVENT: of the event; AFTER: if the AGE of its STATE is n; ENDED: if its STATE is)"
        // the AGE is 1, but the GUARD holds only behind the STEP of the tick
        int[] triggers = {0, 1, 3};
        for (int trigger : triggers) {
            PuppetTheatre x = Check.chart(0, 0, 0, 0);
            x.addTransition(1, 1, 1, 2);
            x.setGuard(0, 2, 0, 1);
            x.addTransition(1, trigger, 1, -1);
            x.setGuard(1, 2, 0, 0);
            x.setAction(1, 1, 0, 1);
            check.due("start()", x.start(), trigger == 3 ? 1 : 0);
            if (trigger == 3) {
                check.due("AGE 0 is not 1", x.active(), set(0, 1));
                check.due("the GUARD held already", x.tick(1), 1);
                continue;
            }
            check.due("tick(1)", x.tick(1), trigger == 1 ? 1 : 0);
            check.due("send(1)", x.send(1), trigger == 0 ? 1 : 0);
            check.due("variable(0)", x.variable(0), 1);
            check.due("not by itself, nor by an event", x.active(), set(0, 1));
            check.due("AGE 2", x.tick(1), 0);
        }
    }

    private static void endedAndAlways() {
        // Terms 3: "2 ENDED, 3 ALWAYS"
        PuppetTheatre x = Check.chart(0, 0, 1, 0, 1, 2, 0, 0, 0, 0);
        x.addTransition(2, 0, 0, 3);
        x.addTransition(1, 2, 0, 4);
        x.addTransition(4, 3, 0, 5);
        check.due("neither at first", x.start(), 0);
        check.due("neither by a tick", x.tick(1), 0);
        check.due("it ENDED, then ALWAYS", x.send(0), 3);
        check.due("active()", x.active(), set(0, 5));
        check.due("no EVENT", x.open(), 0);
    }

    private static void guards() {
        // Terms 3: "a GUARD, none at first: that a variable is less than, equal to, or greater than a number"
        // Terms 5: "and its GUARD holds"
        int[] values = {-99, -98, -1, 0, 1, 98, 99};
        int[] bounds = {-99, -98, -1, 0, 1, 98, 99};
        for (int how = 0; how <= 3; how++) {
            for (int i = 0; i < values.length * bounds.length; i++) {
                int value = values[i / bounds.length];
                int bound = bounds[i % bounds.length];
                int v = (i + how) % 4;
                PuppetTheatre x = new PuppetTheatre();
                x.addTransition(0, 0, 0, -1);
                x.setDoing(0, false, 1, v, value);
                check.due("how before", x.setGuard(0, how, v, bound), 0);
                x.start();
                boolean holds = how == 0 || how == 1 && value < bound || how == 2 && value == bound
                        || how == 3 && value > bound;
                String what = value + ", how " + how + ", " + bound;
                check.due(what, x.send(0), holds ? 1 : 0);
                check.due(what + ", open()", x.open(), holds ? 1 : 0);
            }
        }
        for (int v = 0; v < 4; v++) {
            // all but the one asked are 0
            PuppetTheatre x = new PuppetTheatre();
            x.setDoing(0, false, 1, v, 9);
            for (int asked = 0; asked < 4; asked++) {
                x.setGuard(x.addTransition(0, 0, asked, -1), 2, asked, 9);
            }
            x.start();
            check.due("variable " + v + " alone is 9", x.open(), 1 << v);
        }
    }

    // ---- 4 WHAT IS ACTIVE

    private static void fill() {
        // Terms 4: "While it RUNS, a set of STATES is ACTIVE, with each one its PARENT."
        // Terms 4: "To FILL a STATE is to ENTER it, and to FILL its FIRST, if it is PLAIN with PARTS, or all its PARTS, if it is BROAD."
        // Terms 4: "As it is STARTED, the ROOT is FILLED."
        int[][] charts = {{}, {0, 3}, {0, 1}, {0, 1, 1, 3}, {0, 1, 1, 0, 1, 1, 1, 3, 1, 4},
            {0, 0, 0, 0, 1, 0, 1, 0}, {0, 2}, {0, 1, 1, 1, 2, 0, 2, 0, 1, 0, 5, 0, 5, 0},
            {0, 4, 0, 0, 2, 3, 2, 1, 4, 0}};
        int[] due = {set(0), set(0), set(0, 1), set(0, 1), set(0, 1, 2, 3),
            set(0, 1, 3), set(0, 1), set(0, 1, 2, 3, 4, 5, 6),
            set(0, 2, 4, 5)};
        for (int i = 0; i < charts.length; i++) {
            PuppetTheatre x = Check.chart(charts[i]);
            check.due("ahead of start() of chart " + i, x.active(), 0);
            x.start();
            check.due("active() of chart " + i, x.active(), due[i]);
            check.due("stop() of chart " + i, x.stop(), Integer.bitCount(due[i]));
            check.due("behind stop() of chart " + i, x.active(), 0);
        }
    }

    private static void into() {
        // Terms 4: "to ENTER all that are beneath the SCOPE, and beneath which any of them is"
        // Terms 4: "and to FILL each of them"
        // 0 { 1, 2 { 3, 4 { 5, 6 { 7, 8 } } } }
        PuppetTheatre x = Check.chart(0, 0, 0, 0, 2, 0, 2, 0, 4, 0, 4, 0, 6, 0, 6, 0);
        x.addTransition(1, 0, 0, 8);
        x.addTransition(1, 0, 1, 6);
        x.addTransition(1, 0, 2, 2);
        x.addTransition(8, 0, 3, 5);
        x.start();
        check.due("no FIRST on the way", x.wouldBe(0), set(0, 2, 4, 6, 8));
        check.due("the last one is FILLED", x.wouldBe(1), set(0, 2, 4, 6, 7));
        check.due("FIRST alone", x.wouldBe(2), set(0, 2, 3));
        x.send(0);
        x.tick(1);
        x.send(3);
        check.due("from a SCOPE beneath", x.active(), set(0, 2, 4, 5));
        check.due("what is not beneath it is not ENTERED", x.ageOf(4), 1);
        check.due("nor is the ROOT", x.ageOf(0), 1);
    }

    /** 1 BROAD { 2 { 3, 4 }, 5 { 6, 7 }, 8 BROAD { 9, 10 } }, 11. */
    private static PuppetTheatre broad() {
        return Check.chart(0, 1, 1, 0, 2, 0, 2, 0, 1, 0, 5, 0, 5, 0, 1, 1, 8, 0, 8, 0, 0, 0);
    }

    private static void broadWays() {
        // Terms 4: "to FILL those PARTS of the BROAD ones of these that are none of them, and beneath which none of them is"
        PuppetTheatre x = broad();
        int[] goals = {1, 2, 4, 7, 8, 9, 10, 11};
        int[] due = {set(0, 1, 2, 3, 5, 6, 8, 9, 10), set(0, 1, 2, 3, 5, 6, 8, 9, 10),
            set(0, 1, 2, 4, 5, 6, 8, 9, 10), set(0, 1, 2, 3, 5, 7, 8, 9, 10), set(0, 1, 2, 3, 5, 6, 8, 9, 10),
            set(0, 1, 2, 3, 5, 6, 8, 9, 10), set(0, 1, 2, 3, 5, 6, 8, 9, 10), set(0, 11)};
        for (int i = 0; i < goals.length; i++) {
            x.addTransition(11, 0, i, goals[i]);
        }
        x.addTransition(3, 0, 8, 4);
        x.setFirst(0, 11);
        x.start();
        for (int i = 0; i < goals.length; i++) {
            check.due("to " + goals[i], x.wouldBe(i), due[i]);
        }
        x.send(0);
        x.tick(1);
        x.send(8);
        check.due("the SCOPE is beneath the BROAD one", x.active(), set(0, 1, 2, 4, 5, 6, 8, 9, 10));
        int[] ages = {1, 1, 1, -1, 0, 1, 1, -1, 1, 1, 1, -1};
        for (int s = 0; s < ages.length; s++) {
            check.due("AGE of " + s, x.ageOf(s), ages[s]);
        }
    }

    private static void markWithoutRecord() {
        // Terms 4: "otherwise it is to go INTO its PARENT"
        // 0 { 1, 2 BROAD { 3, 4 { 5, 6 HISTORY, 7 DEEP }, 8 HISTORY, 9 DEEP }, 10 { 11, 12 { 13, 14 HISTORY, 15 } } }
        PuppetTheatre x = Check.chart(0, 0, 0, 1, 2, 0, 2, 0, 4, 0, 4, 3, 4, 4, 2, 3, 2, 4,
                0, 0, 10, 0, 10, 0, 12, 0, 12, 3, 12, 0);
        int[] marks = {6, 7, 8, 9, 14};
        for (int i = 0; i < marks.length; i++) {
            x.addTransition(1, 0, i, marks[i]);
        }
        x.start();
        for (int i = 0; i < 4; i++) {
            check.due("to " + marks[i], x.wouldBe(i), set(0, 2, 3, 4, 5));
        }
        check.due("no FIRST on the way", x.wouldBe(4), set(0, 10, 12, 13));
        x.stop();
        x.setFirst(12, 15);
        x.start();
        check.due("FIRST of its PARENT", x.wouldBe(4), set(0, 10, 12, 15));
    }

    private static void markOfScope() {
        // Terms 4: "if that is the SCOPE itself (it is ACTIVE then, and is not ENTERED again), it is to FILL its FIRST, if it has one"
        // 0 { 1, 2 { 3, 4 BROAD { 5, 6 }, 7 HISTORY, 8 DEEP }, 9 HISTORY, 10 DEEP }
        PuppetTheatre x = Check.chart(0, 0, 0, 0, 2, 0, 2, 1, 4, 0, 4, 0, 2, 3, 2, 4, 0, 3, 0, 4);
        x.setFirst(2, 4);
        x.addTransition(1, 0, 0, 3);
        x.addTransition(3, 0, 1, 7);
        x.addTransition(3, 0, 2, 8);
        x.addTransition(2, 0, 3, 9);
        x.addTransition(2, 0, 4, 10);
        for (int s = 0; s < 7; s++) {
            x.setDoing(s, false, 2, s < 4 ? s : 0, 10);
        }
        x.start();
        x.send(0);
        check.due("2 is ENTERED", x.variable(2), 10);
        x.tick(1);
        for (int event = 1; event <= 2; event++) {
            check.due("FIRST of 2 is FILLED", x.wouldBe(event), set(0, 2, 4, 5, 6));
        }
        for (int event = 3; event <= 4; event++) {
            check.due("FIRST of the ROOT is FILLED", x.wouldBe(event), set(0, 1));
        }
        check.due("send(1)", x.send(1), 1);
        check.due("2 is not ENTERED again", x.variable(2), 10);
        check.due("nor is its AGE 0", x.ageOf(2), 1);
        check.due("the ROOT and three of 4 are", x.variable(0), 40);
        x.send(4);
        check.due("the ROOT is not ENTERED again", x.variable(0), 40);
        check.due("1 is", x.variable(1), 20);
    }

    private static void markWithEmptyRecord() {
        // Terms 4: "To go INTO a MARK: if it has a RECORD (an empty one is none)"
        // 0 { 1 { 2 HISTORY, 3 DEEP }, 4, 5 BROAD { 6 HISTORY, 7 DEEP } }
        PuppetTheatre x = Check.chart(0, 0, 1, 3, 1, 4, 0, 0, 0, 1, 5, 3, 5, 4);
        x.addTransition(1, 0, 0, 4);
        x.addTransition(5, 0, 0, 4);
        int[] marks = {2, 3, 6, 7};
        for (int i = 0; i < marks.length; i++) {
            x.addTransition(4, 0, 1 + i, marks[i]);
        }
        x.start();
        for (int i = 0; i < marks.length; i++) {
            x.send(0);
            check.due("active()", x.active(), set(0, 4));
            check.due("record(" + marks[i] + ")", x.record(marks[i]), 0);
            check.due("INTO " + marks[i], x.send(1 + i), 1);
            check.due("its PARENT alone", x.active(), set(0, i < 2 ? 1 : 5));
        }
    }

    private static void history() {
        // Terms 4: "3 the PARTS of the PARENT that are ACTIVE"
        // Terms 4: "it is to go INTO the STATES of the RECORD"
        // 0 { 1 { 2, 3 { 4, 5 }, 6 HISTORY }, 7 }
        PuppetTheatre x = Check.chart(0, 0, 1, 0, 1, 0, 3, 0, 3, 0, 1, 3, 0, 0);
        x.addTransition(2, 0, 0, 5);
        x.addTransition(1, 0, 1, 7);
        x.addTransition(7, 0, 2, 6);
        x.addTransition(2, 0, 3, 6);
        x.start();
        x.send(0);
        check.due("active()", x.active(), set(0, 1, 3, 5));
        check.due("1 was not left", x.record(6), 0);
        x.send(1);
        check.due("the PART, not the LEAF", x.record(6), set(3));
        check.due("active()", x.active(), set(0, 7));
        x.send(2);
        check.due("the PART is FILLED", x.active(), set(0, 1, 3, 4));
        check.due("the RECORD stays", x.record(6), set(3));
        x.stop();
        check.due("behind stop()", x.record(6), set(3));
        x.start();
        check.due("STARTED anew", x.record(6), 0);
        // from within, the SCOPE is its PARENT: first without a RECORD, then with one
        x.tick(1);
        x.send(3);
        check.due("FIRST", x.active(), set(0, 1, 2));
        x.send(0);
        x.send(1);
        x.send(2);
        check.due("the RECORD", x.active(), set(0, 1, 3, 4));
    }

    private static void deepHistory() {
        // Terms 4: "4 the LEAVES beneath the PARENT that are ACTIVE"
        // Terms 4: "All that is ENTERED is so once, by numbers, the smallest first, each with its ACTION."
        // 0 { 1 { 2, 3 BROAD { 4 { 5, 6 }, 7 }, 8 DEEP }, 9 }
        PuppetTheatre x = Check.chart(0, 0, 1, 0, 1, 1, 3, 0, 4, 0, 4, 0, 3, 0, 1, 4, 0, 0);
        x.addTransition(2, 0, 0, 6);
        x.addTransition(1, 0, 1, 9);
        x.addTransition(9, 0, 2, 8);
        x.addTransition(6, 0, 3, 8);
        for (int s = 1; s <= 7; s++) {
            x.setDoing(s, false, 2, s % 2, 1);
        }
        x.setDoing(9, false, 1, 0, 0);
        x.setDoing(9, true, 1, 1, 0);
        x.start();
        x.send(0);
        check.due("active()", x.active(), set(0, 1, 3, 4, 6, 7));
        x.send(1);
        check.due("the LEAVES that are ACTIVE", x.record(8), set(6, 7));
        x.send(2);
        check.due("all of them", x.active(), set(0, 1, 3, 4, 6, 7));
        check.due("4 and 6 once", x.variable(0), 2);
        check.due("1, 3 and 7 once", x.variable(1), 3);
        x.tick(1);
        check.due("from within: the SCOPE is its PARENT", x.send(3), 1);
        check.due("active()", x.active(), set(0, 1, 3, 4, 6, 7));
        check.due("ageOf(1)", x.ageOf(1), 1);
        check.due("ageOf(3)", x.ageOf(3), 0);
        check.due("ageOf(6)", x.ageOf(6), 0);
    }

    private static void historyOfBroad() {
        // Terms 4: "A MARK gets a RECORD each time its PARENT is left"
        // it is made in the very STEP that goes INTO it
        // 0 { 1 BROAD { 2 { 3, 4 }, 5, 6 DEEP, 7 HISTORY } }
        PuppetTheatre x = Check.chart(0, 1, 1, 0, 2, 0, 2, 0, 1, 0, 1, 4, 1, 3);
        x.addTransition(3, 0, 0, 4);
        x.addTransition(4, 0, 1, 6);
        x.addTransition(4, 0, 2, 7);
        x.start();
        x.send(0);
        check.due("record(6)", x.record(6), 0);
        x.tick(1);
        x.send(1);
        check.due("record(6)", x.record(6), set(4, 5));
        check.due("record(7)", x.record(7), set(2, 5));
        check.due("active()", x.active(), set(0, 1, 2, 4, 5));
        check.due("ageOf(1)", x.ageOf(1), 0);
        x.send(2);
        check.due("active()", x.active(), set(0, 1, 2, 3, 5));
        check.due("record(6)", x.record(6), set(4, 5));
    }

    private static void recordOfEnd() {
        // Terms 4: "3 the PARTS of the PARENT that are ACTIVE, 4 the LEAVES beneath the PARENT that are ACTIVE"
        // 0 { 1 { 2, 3 END, 4 HISTORY, 5 DEEP }, 6 }
        PuppetTheatre x = Check.chart(0, 0, 1, 0, 1, 2, 1, 3, 1, 4, 0, 0);
        x.addTransition(2, 0, 0, 3);
        x.addTransition(1, 0, 1, 6);
        x.addTransition(6, 0, 2, 4);
        x.addTransition(6, 0, 3, 5);
        x.start();
        x.send(0);
        x.send(1);
        check.due("record(4)", x.record(4), set(3));
        check.due("record(5)", x.record(5), set(3));
        check.due("wouldBe(2)", x.wouldBe(2), set(0, 1, 3));
        check.due("wouldBe(3)", x.wouldBe(3), set(0, 1, 3));
    }

    private static void marksOfRoot() {
        // Terms 4: "A MARK gets a RECORD each time its PARENT is left"
        // the ROOT is never left
        PuppetTheatre x = Check.chart(0, 0, 0, 0, 0, 3, 0, 4, 0, 2);
        x.addTransition(1, 0, 0, 2);
        x.addTransition(2, 0, 1, 3);
        x.addTransition(2, 0, 2, 4);
        x.addTransition(0, 0, 9, -1);
        x.start();
        x.send(0);
        check.due("record(3)", x.record(3), 0);
        check.due("INTO 3", x.wouldBe(1), set(0, 1));
        check.due("INTO 4", x.wouldBe(2), set(0, 1));
        x.stop();
        check.due("record(3) behind stop()", x.record(3), 0);
        check.due("record(4) behind stop()", x.record(4), 0);
    }

    private static void over() {
        // Terms 4: "It is OVER, if an END whose PARENT is the ROOT is ACTIVE."
        // 0 { 1 { 2, 3 END }, 4 END, 5 BROAD { 6 { 7 END } } }
        PuppetTheatre x = Check.chart(0, 0, 1, 0, 1, 2, 0, 2, 0, 1, 5, 0, 6, 2);
        x.addTransition(1, 0, 0, 3);
        x.addTransition(1, 0, 1, 5);
        x.addTransition(5, 0, 2, 4);
        check.due("ahead of start()", x.isOver(), false);
        x.start();
        check.due("behind start()", x.isOver(), false);
        x.send(0);
        check.due("an END in another one", x.isOver(), false);
        x.send(1);
        check.due("all that is in 5 is ENDED", x.isEnded(5), true);
        check.due("but it is not OVER", x.isOver(), false);
        x.send(2);
        check.due("an END in the ROOT", x.isOver(), true);
        x.stop();
        check.due("behind stop()", x.isOver(), false);
    }

    private static void ended() {
        // Terms 4: "A STATE is ENDED, if it is PLAIN, and an END that is a PART of it is ACTIVE"
        // Terms 4: "or BROAD with PARTS, and all of these are ENDED"
        // Terms 5: "ENDED: if its STATE is"
        // 0 { 1 BROAD { 2 { 3, 4 END }, 5 { 6, 7 END } }, 8 BROAD, 9 BROAD { 10 HISTORY } }
        PuppetTheatre x = Check.chart(0, 1, 1, 0, 2, 0, 2, 2, 1, 0, 5, 0, 5, 2, 0, 1, 0, 1, 9, 3);
        x.addTransition(3, 0, 0, 4);
        x.addTransition(6, 0, 1, 7);
        x.addTransition(1, 2, 0, 8);
        x.addTransition(2, 2, 0, -1);
        x.setGuard(3, 1, 0, 1);
        x.setAction(3, 1, 0, 1);
        x.addTransition(8, 2, 0, 9);
        x.addTransition(9, 2, 0, 8);
        x.addTransition(8, 0, 2, 9);
        check.due("neither is", x.start(), 0);
        check.due("a PLAIN one is", x.send(0), 2);
        check.due("isEnded(2)", x.isEnded(2), true);
        check.due("isEnded(1)", x.isEnded(1), false);
        check.due("the BROAD one is, so 1 to 8", x.send(1), 2);
        check.due("one without PARTS is not", x.active(), set(0, 8));
        check.due("send(2)", x.send(2), 1);
        check.due("one with a MARK alone is not", x.active(), set(0, 9));
    }

    // ---- 5 A STEP

    private static void nearestIsChosen() {
        // Terms 5: "A TRANSITION is OPEN, if its STATE is ACTIVE"
        // Terms 5: "For each LEAF that is ACTIVE, by numbers, the OPEN TRANSITION with the smallest number of the nearest STATE that has any, from the LEAF itself upward, is CHOSEN"
        PuppetTheatre x = Check.chart(0, 0, 1, 0, 1, 0);
        x.addTransition(0, 0, 0, -1);
        x.addTransition(1, 0, 0, -1);
        x.addTransition(3, 0, 0, -1);
        x.addTransition(2, 0, 0, -1);
        x.addTransition(2, 0, 0, -1);
        int[] due = {3, 4, 1, 0};
        // each one is OPEN once: what FIRED shuts itself, so the next one is CHOSEN
        for (int i = 0; i < due.length; i++) {
            x.setGuard(due[i], 1, i, 1);
            x.setAction(due[i], 1, i, 1);
        }
        x.start();
        for (int t : due) {
            check.due("send(0)", x.send(0), 1);
            check.due("fired(" + t + ")", x.fired(t), 1);
        }
        check.due("none is OPEN", x.send(0), 0);
        check.due("that of 3, which is not ACTIVE", x.fired(2), 0);
    }

    private static void scope() {
        // Terms 5: "The SCOPE of a TRANSITION to a STATE is the nearest PLAIN STATE beneath which both its STATE and that are"
        // Terms 5: "it LEAVES all that is ACTIVE beneath its SCOPE"
        // 0 { 1 { 2 { 3, 4 }, 5 } }: to itself, to one beneath, to its PARENT, side by side, further up
        int[][] rows = {{3, 3, 2}, {3, 4, 2}, {3, 2, 1}, {2, 2, 1}, {2, 3, 1}, {2, 4, 1}, {3, 5, 1}, {2, 5, 1},
            {3, 1, 0}, {2, 1, 0}, {1, 1, 0}, {1, 2, 0}, {1, 3, 0}, {1, 4, 0}, {1, 5, 0}};
        for (int[] row : rows) {
            PuppetTheatre x = Check.chart(0, 0, 1, 0, 2, 0, 2, 0, 1, 0);
            x.addTransition(row[0], 0, 0, row[1]);
            int[] depth = {0, 1, 2, 3};
            for (int s : depth) {
                x.setDoing(s, true, 2, s, 1);
            }
            x.start();
            x.tick(7);
            String what = "from " + row[0] + " to " + row[1];
            check.due(what, x.send(0), 1);
            for (int s : depth) {
                check.due(what + " LEAVES " + s, x.variable(s), s > row[2] ? 1 : 0);
                boolean is = (x.active() >> s & 1) == 1;
                check.due(what + ", AGE of " + s, x.ageOf(s), s <= row[2] ? 7 : is ? 0 : -1);
            }
        }
    }

    private static void scopeIsNotBroad() {
        // Terms 5: "The SCOPE of a TRANSITION to a STATE is the nearest PLAIN STATE beneath which both its STATE and that are"
        PuppetTheatre x = broad();
        x.addTransition(7, 0, 4, 10);
        x.addTransition(6, 0, 0, 7);
        x.addTransition(9, 0, 1, 9);
        x.addTransition(2, 0, 2, 2);
        x.start();
        x.tick(2);
        x.send(0);
        x.tick(1);
        check.due("across the BROAD one: the SCOPE is the ROOT", x.send(4), 1);
        check.due("all is ENTERED anew", x.active(), set(0, 1, 2, 3, 5, 6, 8, 9, 10));
        check.due("ageOf(1)", x.ageOf(1), 0);
        check.due("ageOf(0)", x.ageOf(0), 3);
        for (int event = 1; event <= 2; event++) {
            x.tick(1);
            check.due("a PART of a BROAD one, to itself", x.send(event), 1);
            check.due("AGE of the BROAD one", x.ageOf(1), 0);
            check.due("AGE of another PART", x.ageOf(6), 0);
        }
    }

    private static void toNone() {
        // Terms 5: "of one to none there is nothing that it LEAVES"
        // Terms 5: "by one to none nothing is"
        PuppetTheatre x = broad();
        x.addTransition(1, 0, 0, -1);
        x.addTransition(6, 0, 0, 7);
        x.addTransition(0, 0, 0, -1);
        for (int s = 0; s < 12; s++) {
            if (s != 6 && s != 7) {
                x.setDoing(s, true, 1, 0, 5);
                x.setDoing(s, false, 2, 1, 1);
            }
        }
        x.setAction(0, 2, 2, 1);
        x.start();
        check.due("ENTERED by start()", x.variable(1), 8);
        x.tick(3);
        check.due("two stay side by side, one to none comes once", x.send(0), 2);
        check.due("fired(0)", x.fired(0), 1);
        check.due("fired(1)", x.fired(1), 1);
        check.due("its ACTION, once", x.variable(2), 1);
        check.due("no other was left", x.variable(0), 0);
        check.due("no other was ENTERED", x.variable(1), 8);
        check.due("ageOf(1)", x.ageOf(1), 3);
        check.due("ageOf(3)", x.ageOf(3), 3);
        check.due("active()", x.active(), set(0, 1, 2, 3, 5, 7, 8, 9, 10));
    }

    private static void innerOneIsTaken() {
        // Terms 5: "is taken only if its STATE is beneath the STATE of each of those; then those are not taken any more"
        // Terms 5: "Those taken have FIRED."
        // the outer one comes first, by the smaller LEAF
        PuppetTheatre x = broad();
        x.addTransition(1, 0, 0, 11);
        x.addTransition(6, 0, 0, 7);
        x.setAction(0, 1, 0, 1);
        x.setAction(1, 1, 1, 1);
        x.start();
        check.due("send(0)", x.send(0), 1);
        check.due("active()", x.active(), set(0, 1, 2, 3, 5, 7, 8, 9, 10));
        check.due("the outer one's ACTION", x.variable(0), 0);
        check.due("the inner one's ACTION", x.variable(1), 1);
        check.due("fired(0)", x.fired(0), 0);
        check.due("fired(1)", x.fired(1), 1);
        check.due("covered()", x.covered(), 1);
        check.due("no inner one is OPEN any more", x.send(0), 1);
        check.due("active()", x.active(), set(0, 11));
    }

    private static void goneOneIsNoHindrance() {
        // Terms 5: "then those are not taken any more"
        // 0 { 1 BROAD { 2 BROAD { 3, 4 { 5, 6 } }, 7 { 8, 9 } }, 10 }
        PuppetTheatre x = Check.chart(0, 1, 1, 1, 2, 0, 2, 0, 4, 0, 4, 0, 1, 0, 7, 0, 7, 0, 0, 0);
        // LEAF 3 brings 0 (of 2, out of all), LEAF 5 brings 1 (of 5, for 0), LEAF 8 brings 2
        x.addTransition(2, 0, 0, 10);
        x.addTransition(5, 0, 0, 6);
        x.addTransition(8, 0, 0, 9);
        x.start();
        check.due("active()", x.active(), set(0, 1, 2, 3, 4, 5, 7, 8));
        check.due("send(0)", x.send(0), 2);
        check.due("active()", x.active(), set(0, 1, 2, 3, 4, 6, 7, 9));
        check.due("send(0): 0 alone is OPEN", x.send(0), 1);
        check.due("active()", x.active(), set(0, 10));
    }

    private static void firstOneStays() {
        // Terms 5: "one that LEAVES something that another one, which was taken, LEAVES, is taken only if its STATE is beneath the STATE of each of those"
        // neither STATE is beneath the other; one to none is in nobody's way
        PuppetTheatre x = broad();
        x.addTransition(3, 0, 0, 4);
        x.addTransition(6, 0, 0, 11);
        x.addTransition(9, 0, 0, -1);
        x.setAction(2, 1, 0, 1);
        x.start();
        check.due("send(0)", x.send(0), 2);
        check.due("active()", x.active(), set(0, 1, 2, 4, 5, 6, 8, 9, 10));
        check.due("the one to none", x.variable(0), 1);
        check.due("send(0)", x.send(0), 2);
        check.due("active()", x.active(), set(0, 11));
        // the STATE of the one that comes is above that of the one that was taken
        PuppetTheatre y = broad();
        y.addTransition(3, 0, 0, 4);
        y.addTransition(1, 0, 0, 11);
        y.start();
        check.due("send(0)", y.send(0), 1);
        check.due("the inner one", y.fired(0), 1);
        check.due("active()", y.active(), set(0, 1, 2, 4, 5, 6, 8, 9, 10));
    }

    private static void beneathOneOfTwo() {
        // Terms 5: "is taken only if its STATE is beneath the STATE of each of those"
        // 0 { 1 BROAD { 2 { 3 BROAD { 5, 7 }, 9 }, 4 { 6, 8 } }, 10 }
        PuppetTheatre x = Check.chart(0, 1, 1, 0, 2, 1, 1, 0, 3, 0, 4, 0, 3, 0, 4, 0, 2, 0, 0, 0);
        // LEAF 5 brings 0 (of 3, beneath 2), LEAF 6 brings 1 (beneath 4), LEAF 7 brings 2, out of all
        x.addTransition(3, 0, 0, 9);
        x.addTransition(6, 0, 0, 8);
        x.addTransition(7, 0, 0, 10);
        x.start();
        check.due("active()", x.active(), set(0, 1, 2, 3, 4, 5, 6, 7));
        check.due("7 is beneath 3, but not beneath 6", x.send(0), 2);
        check.due("fired(2)", x.fired(2), 0);
        check.due("active()", x.active(), set(0, 1, 2, 4, 8, 9));
        x.stop();
        // without the one of 6 it is taken for that of 3
        x.setGuard(1, 3, 0, 0);
        x.start();
        check.due("send(0)", x.send(0), 1);
        check.due("fired(2)", x.fired(2), 1);
        check.due("active()", x.active(), set(0, 10));
    }

    private static void onesBetweenStay() {
        // Terms 5: "then the ACTION of each TRANSITION, in the order in which they came"
        // 0 is taken and is not any more; 1, which came between, stays and keeps its turn
        for (int turn = 0; turn < 2; turn++) {
            PuppetTheatre x = broad();
            x.addTransition(1, 0, 0, 11);
            x.addTransition(6, 0, 0, -1);
            x.addTransition(9, 0, 0, 9);
            x.setAction(0, 2, 1, 1);
            x.setAction(1, 2, 0, 60);
            x.setAction(2, 2, 0, turn == 0 ? 60 : -60);
            x.setDoing(0, false, 1, 0, turn == 0 ? -60 : 60);
            x.start();
            x.tick(1);
            check.due("send(0)", x.send(0), 2);
            check.due("fired(0)", x.fired(0), 0);
            check.due("fired(1)", x.fired(1), 1);
            check.due("fired(2)", x.fired(2), 1);
            check.due("variable(1)", x.variable(1), 0);
            check.due("the ACTION of 1 comes first", x.variable(0), turn == 0 ? 60 : 39);
            check.due("all is left, and ENTERED anew", x.ageOf(1), 0);
            check.due("active()", x.active(), set(0, 1, 2, 3, 5, 6, 8, 9, 10));
        }
    }

    private static void eachComesOnce() {
        // Terms 5: "The CHOSEN ones come one by one, each once"
        // the LEAVES bring 0, 1, 0, 0: each FIRES once
        PuppetTheatre x = broad();
        x.addTransition(1, 0, 0, -1);
        x.addTransition(6, 0, 0, -1);
        x.setAction(0, 2, 0, 1);
        x.start();
        check.due("send(0)", x.send(0), 2);
        check.due("variable(0)", x.variable(0), 1);
        check.due("fired(0)", x.fired(0), 1);
    }

    private static void notTakenComesNotAgain() {
        // Terms 5: "each once (one that was not taken does not come again)"
        // 0 { 1 BROAD { 2 { 3 BROAD { 6 { 9, 11 }, 7 } }, 4 { 5 BROAD { 8, 10 }, 12 } }, 13 }
        PuppetTheatre x = Check.chart(0, 1, 1, 0, 2, 1, 1, 0, 4, 1, 3, 0, 3, 0, 5, 0, 6, 0, 5, 0, 6, 0, 4, 0, 0, 0);
        // LEAF 7 brings 0 (of 2, out of all), LEAF 8 brings 1 (of 5), which is not taken for 0,
        // LEAF 9 brings 2, which is taken for 0, and LEAF 10 would bring 1, which nothing hinders now
        x.addTransition(2, 0, 0, 13);
        x.addTransition(5, 0, 0, 12);
        x.addTransition(9, 0, 0, 11);
        x.start();
        check.due("active()", x.active(), set(0, 1, 2, 3, 4, 5, 6, 7, 8, 9, 10));
        check.due("send(0)", x.send(0), 1);
        check.due("fired(0)", x.fired(0), 0);
        check.due("fired(1)", x.fired(1), 0);
        check.due("fired(2)", x.fired(2), 1);
        check.due("active()", x.active(), set(0, 1, 2, 3, 4, 5, 6, 7, 8, 10, 11));
    }

    private static void order() {
        // Terms 5: "Then, of those that are still taken: all that they LEAVE together is left, the greatest numbers first"
        // Terms 5: "then the ACTION of each TRANSITION, in the order in which they came"
        // Terms 5: "all that is ENTERED by all of them together, by numbers"
        // 0 { 1 BROAD { 2 { 5 { 7 }, 10 }, 3 { 6 { 8 }, 9 }, 4 { 11 to 19 } } }
        PuppetTheatre x = Check.chart(0, 1, 1, 0, 1, 0, 1, 0, 2, 0, 3, 0, 5, 0, 6, 0, 3, 0, 2, 0);
        while (x.states() < 20) {
            x.addState(4, 0);
        }
        // LEAF 7 brings 1, LEAF 8 brings 0
        x.addTransition(6, 0, 0, 9);
        x.addTransition(5, 0, 0, 10);
        // all RAISE an event; 4 goes on from PART to PART only if they come in the order 1 to 8
        int[] left = {8, 7, 6, 5};
        for (int i = 0; i < left.length; i++) {
            x.setDoing(left[i], true, 3, 1 + i, 0);
        }
        x.setAction(1, 3, 5, 0);
        x.setAction(0, 3, 6, 0);
        x.setDoing(9, false, 3, 7, 0);
        x.setDoing(10, false, 3, 8, 0);
        for (int e = 1; e <= 8; e++) {
            x.addTransition(10 + e, 0, e, 11 + e);
        }
        x.start();
        check.due("active()", x.active(), set(0, 1, 2, 3, 4, 5, 6, 7, 8, 11));
        check.due("send(0)", x.send(0), 10);
        check.due("active()", x.active(), set(0, 1, 2, 3, 4, 9, 10, 19));
        check.due("lost()", x.lost(), 0);
        check.due("restless()", x.restless(), 0);
    }

    private static void recordsAheadOfLeaving() {
        // Terms 5: "first all RECORDS are made, then each is left, with its ACTION"
        // 0 { 1 { 2 { 3 { 4 }, 5 HISTORY }, 6 DEEP, 7 HISTORY }, 8 }
        PuppetTheatre x = Check.chart(0, 0, 1, 0, 2, 0, 3, 0, 2, 3, 1, 4, 1, 3, 0, 0);
        x.addTransition(1, 0, 0, 8);
        for (int s = 1; s <= 4; s++) {
            x.setDoing(s, true, 2, 0, s);
        }
        x.start();
        x.send(0);
        check.due("PART of 2", x.record(5), set(3));
        check.due("LEAF of 1", x.record(6), set(4));
        check.due("PART of 1", x.record(7), set(2));
        check.due("each is left, with its ACTION", x.variable(0), 10);
    }

    private static void bothAtOnce() {
        // Terms 5: "a STEP by ENDED and ALWAYS (both at once)"
        // each shuts the GUARD of the other one, so they FIRE in one STEP or not both
        PuppetTheatre x = Check.chart(0, 1, 1, 0, 1, 0, 2, 2);
        x.addTransition(2, 2, 0, -1);
        x.setGuard(0, 2, 0, 0);
        x.setAction(0, 1, 1, 1);
        x.addTransition(3, 3, 0, -1);
        x.setGuard(1, 2, 1, 0);
        x.setAction(1, 1, 0, 1);
        check.due("start()", x.start(), 2);
        check.due("fired(0)", x.fired(0), 1);
        check.due("fired(1)", x.fired(1), 1);
    }

    private static void queue() {
        // Terms 5: "if it FIRES nothing, the first event of the QUEUE, if there is any, is taken out, and there is a STEP by it"
        // Terms 5: "and so on, till the QUEUE is empty and nothing FIRES"
        PuppetTheatre x = Check.chart(0, 0, 0, 0, 0, 0);
        x.addTransition(1, 0, 0, 2);
        x.setAction(0, 3, 5, 0);
        x.setDoing(1, true, 3, 4, 0);
        x.setDoing(2, false, 3, 6, 0);
        // each GUARD holds only behind the one ahead of it
        x.addTransition(2, 3, 0, -1);
        x.setGuard(1, 2, 0, 0);
        x.setAction(1, 1, 0, 1);
        x.addTransition(2, 0, 4, -1);
        x.setGuard(2, 2, 0, 1);
        x.setAction(2, 1, 0, 2);
        x.addTransition(2, 3, 0, -1);
        x.setGuard(3, 2, 0, 2);
        x.setAction(3, 1, 0, 3);
        x.addTransition(2, 0, 5, -1);
        x.setGuard(4, 2, 0, 3);
        x.setAction(4, 1, 0, 4);
        x.addTransition(2, 0, 6, 3);
        x.setGuard(5, 2, 0, 4);
        x.start();
        check.due("send(0)", x.send(0), 6);
        check.due("active()", x.active(), set(0, 3));
        check.due("lost()", x.lost(), 0);
        check.due("restless()", x.restless(), 0);
    }

    private static void eventsThatFireNothing() {
        // Terms 5: "if it FIRES nothing, the first event of the QUEUE, if there is any, is taken out"
        PuppetTheatre x = new PuppetTheatre();
        for (int s = 1; s <= 8; s++) {
            x.addState(s - 1, 0);
            x.setDoing(s, false, 3, s == 8 ? 1 : 0, 0);
        }
        x.addTransition(0, 0, 1, -1);
        check.due("start(): seven FIRE nothing, the eighth does", x.start(), 1);
        check.due("they are not LOST", x.lost(), 0);
        check.due("send(2)", x.send(2), 0);
        check.due("nothing is left in the QUEUE", x.fired(0), 1);
    }

    private static void queueIsLostAsOver() {
        // Terms 5: "To SETTLE is: as long as it is not OVER"
        // Terms 5: "What is in the QUEUE as it is OVER is LOST, too."
        PuppetTheatre x = Check.chart(0, 0, 0, 2);
        x.addTransition(1, 0, 0, 2);
        x.setDoing(1, true, 3, 1, 0);
        x.setAction(0, 3, 1, 0);
        x.setDoing(2, false, 3, 1, 0);
        x.addTransition(0, 0, 1, -1);
        x.addTransition(0, 3, 1, -1);
        x.setGuard(2, 1, 0, 1);
        x.setAction(2, 1, 0, 1);
        check.due("start()", x.start(), 1);
        check.due("send(0): no ALWAYS, as it is OVER", x.wouldFire(0), 1);
        check.due("send(0)", x.send(0), 1);
        check.due("lost()", x.lost(), 3);
        check.due("fired(1)", x.fired(1), 0);
        check.due("restless()", x.restless(), 0);
        // a full one, and one more for which there was no place
        PuppetTheatre y = Check.chart(0, 0, 1, 0, 2, 0, 3, 0, 4, 0, 5, 0, 6, 0, 7, 0, 0, 2);
        y.addTransition(1, 0, 0, 9);
        for (int s = 1; s <= 8; s++) {
            y.setDoing(s, true, 3, 1, 0);
        }
        y.setDoing(9, false, 3, 1, 0);
        y.start();
        y.send(0);
        check.due("lost() of nine", y.lost(), 9);
        check.due("isOver()", y.isOver(), true);
    }

    /** STEPS that FIRE, one by the call itself (if it is sent or by a tick) and the others ALWAYS. */
    private static void twelfthStep() {
        // Terms 5: "Behind the 12th STEP that FIRES something in one call (or tick; the STEP of that itself counts"
        // Terms 5: "also if nothing would FIRE any more, all in the QUEUE is LOST, and it is RESTLESS once more"
        // 0 { 1, 2 }, and 1 to 2 by itself, by an event, or by a tick
        for (int how = 0; how < 3; how++) {
            for (int more = 9; more <= 14; more++) {
                PuppetTheatre x = Check.chart(0, 0, 0, 0);
                x.addTransition(1, how == 0 ? 3 : how == 1 ? 0 : 1, 1, 2);
                x.setAction(0, 3, 7, 0);
                x.addTransition(2, 3, 0, -1);
                x.setGuard(1, 1, 0, more);
                x.setAction(1, 2, 0, 1);
                x.addTransition(2, 0, 8, -1);
                int started = x.start();
                check.due("start()", started, how == 0 ? Math.min(12, more + 1) : 0);
                int count = how == 0 ? started : how == 1 ? x.send(1) : x.tick(1);
                String what = more + " more by way " + how;
                check.due(what, count, Math.min(12, more + 1));
                check.due(what + ": variable(0)", x.variable(0), count - 1);
                check.due(what + ": restless()", x.restless(), count == 12 ? 1 : 0);
                check.due(what + ": lost()", x.lost(), count == 12 ? 1 : 0);
                check.due(what + ": what was left over FIRES", x.send(8), 1 + more - (count - 1));
                check.due(what + ": restless()", x.restless(), count == 12 ? 1 : 0);
            }
        }
    }

    private static void twelfthStepByTicks() {
        // Terms 5: "it stops to SETTLE at once (further ticks come all the same)"
        PuppetTheatre x = Check.chart(0, 0, 0, 0);
        x.addTransition(1, 1, 1, 2);
        x.addTransition(2, 3, 0, -1);
        x.setAction(1, 2, 0, 1);
        x.start();
        check.due("tick(1)", x.tick(1), 12);
        check.due("the STEP by AFTER counts", x.variable(0), 11);
        check.due("tick(3): no AFTER, so twelve by itself in each", x.tick(3), 36);
        check.due("restless()", x.restless(), 4);
        check.due("clock()", x.clock(), 4);
        check.due("tick(50)", x.tick(50), 600);
        check.due("restless()", x.restless(), 54);
        check.due("clock()", x.clock(), 54);
    }

    private static void silentEventsDoNotCount() {
        // Terms 5: "one by an event that FIRES nothing does not"
        // 1 to itself by 0, as it is left 7 is RAISED, which FIRES nothing, and as it is ENTERED 0
        for (int most = 10; most <= 13; most++) {
            PuppetTheatre x = Check.chart(0, 0);
            x.addTransition(1, 0, 0, 1);
            x.setGuard(0, 1, 0, most);
            x.setAction(0, 2, 0, 1);
            x.setDoing(1, true, 3, 7, 0);
            x.setDoing(1, false, 3, 0, 0);
            check.due("start() of " + most, x.start(), Math.min(12, most));
            check.due("restless()", x.restless(), most >= 12 ? 1 : 0);
            check.due("lost()", x.lost(), most >= 12 ? 2 : 0);
        }
        // the STEP of the call FIRES nothing, and does not count either
        PuppetTheatre y = new PuppetTheatre();
        y.addTransition(0, 3, 0, -1);
        y.setAction(0, 2, 0, 1);
        check.due("start()", y.start(), 12);
        check.due("send(5)", y.send(5), 12);
        check.due("tick(1)", y.tick(1), 12);
        check.due("variable(0)", y.variable(0), 36);
        check.due("restless()", y.restless(), 3);
    }

    private static void severalInAStep() {
        // Terms 5: "Behind the 12th STEP that FIRES something in one call"
        // it is STEPS that count, not TRANSITIONS
        for (int most = 10; most <= 13; most++) {
            PuppetTheatre x = Check.chart(0, 1, 1, 0, 1, 0, 1, 0);
            for (int s = 2; s <= 4; s++) {
                x.addTransition(s, 3, 0, -1);
                x.setGuard(s - 2, 1, s - 2, most);
                x.setAction(s - 2, 2, s - 2, 1);
            }
            check.due("start() of " + most, x.start(), 3 * Math.min(12, most));
            check.due("restless()", x.restless(), most >= 12 ? 1 : 0);
            check.due("fired(2)", x.fired(2), Math.min(12, most));
        }
    }

    private static void overAtTwelfth() {
        // Terms 5: "if it is not OVER, it stops to SETTLE at once"
        for (int most = 10; most <= 12; most++) {
            PuppetTheatre x = Check.chart(0, 0, 0, 2);
            x.addTransition(1, 3, 0, -1);
            x.setGuard(0, 1, 0, most);
            x.setAction(0, 2, 0, 1);
            x.addTransition(1, 3, 0, 2);
            x.setAction(1, 3, 0, 0);
            check.due("start() of " + most, x.start(), Math.min(12, most + 1));
            check.due("isOver()", x.isOver(), most <= 11);
            check.due("restless()", x.restless(), most <= 11 ? 0 : 1);
            check.due("lost()", x.lost(), most <= 11 ? 1 : 0);
        }
    }

    private static void age() {
        // Terms 5: "The AGE of a STATE is how many ticks there were since it was ENTERED last."
        PuppetTheatre x = Check.chart(0, 0, 0, 0, 2, 0);
        x.addTransition(1, 0, 0, 2);
        x.addTransition(3, 0, 1, 3);
        x.start();
        x.tick(4);
        x.send(0);
        check.due("of one ENTERED now", x.ageOf(2), 0);
        x.tick(3);
        x.send(1);
        check.due("ENTERED once more", x.ageOf(3), 0);
        x.tick(50);
        check.due("ageOf(3)", x.ageOf(3), 50);
        check.due("ageOf(2)", x.ageOf(2), 53);
        check.due("ageOf(0)", x.ageOf(0), 57);
        x.send(9);
        check.due("an event is no tick", x.ageOf(3), 50);
    }
}
