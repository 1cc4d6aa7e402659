import java.util.ArrayList;
import java.util.List;
import java.util.function.Supplier;

/**
 * The refused calls of every promise that names an exception. Each one is made on one of two objects
 * that were made alike, and all that can be asked and done is held against the other one then.
 */
public final class RefusalTest {
    /** A call that is to throw. */
    interface Call {
        void make(PuppetTheatre x);
    }

    private static final Class<IllegalStateException> STATE = IllegalStateException.class;
    private static final Class<IndexOutOfBoundsException> INDEX = IndexOutOfBoundsException.class;
    private static final Class<IllegalArgumentException> ARGUMENT = IllegalArgumentException.class;

    private static final int LEAST = Integer.MIN_VALUE;
    private static final int MOST = Integer.MAX_VALUE;

    /** Beyond the nine STATES of resting() and running(), and its six TRANSITIONS. */
    private static final int[] NO_STATES = {-1, 9, 10, 19, 20, 31, 32, 64, LEAST, MOST};
    private static final int[] NO_TRANSITIONS = {-1, 6, 7, 29, 30, 31, 32, 64, LEAST, MOST};

    private static final Check check = new Check();
    private static int calls;

    public static void main(String[] args) {
        addState();
        setFirst();
        setDoing();
        addTransition();
        setGuard();
        setAction();
        startAndStop();
        send();
        tick();
        ofState();
        askingOfStates();
        askingOfOthers();
        would();
        open();
        rowTo();
        rowFor();
        check.due("how many refused calls were made", calls > 500, true);
        check.end();
    }

    // ---- objects

    /** 0 { 1 { 4, 5 END, 6 HISTORY }, 2 BROAD { 7, 8 }, 3 DEEP }, with something set everywhere. */
    private static PuppetTheatre resting() {
        PuppetTheatre x = Check.chart(0, 0, 0, 1, 0, 4, 1, 0, 1, 2, 1, 3, 2, 0, 2, 0);
        x.addTransition(4, 0, 0, 5);
        x.addTransition(1, 2, 0, 2);
        x.addTransition(7, 0, 1, 6);
        x.addTransition(0, 0, 2, -1);
        x.addTransition(8, 1, 2, 4);
        x.addTransition(2, 3, 0, -1);
        x.setGuard(3, 3, 0, -98);
        x.setAction(3, 2, 0, 1);
        x.setGuard(5, 2, 1, 5);
        x.setAction(5, 1, 1, 6);
        x.setAction(0, 3, 9, 0);
        for (int s = 0; s < 9; s++) {
            if (s != 3 && s != 6) {
                x.setDoing(s, false, 2, s % 4, s + 1);
                x.setDoing(s, true, 2, (s + 1) % 4, -s);
            }
        }
        return x;
    }

    private static PuppetTheatre running() {
        PuppetTheatre x = resting();
        x.start();
        x.tick(1);
        x.rowTo(8, 8);
        return x;
    }

    private static PuppetTheatre stopped() {
        PuppetTheatre x = running();
        x.send(0);
        x.stop();
        return x;
    }

    /** OVER by an END in the ROOT. */
    private static PuppetTheatre over() {
        PuppetTheatre x = resting();
        x.addState(0, 2);
        x.addTransition(4, 0, 7, 9);
        x.start();
        x.send(7);
        return x;
    }

    private static PuppetTheatre fullOfStates() {
        PuppetTheatre x = resting();
        while (x.states() < 20) {
            x.addState(2, 0);
        }
        return x;
    }

    private static PuppetTheatre fullOfTransitions() {
        PuppetTheatre x = resting();
        while (x.transitions() < 30) {
            x.addTransition(0, 0, 2, -1);
        }
        return x;
    }

    // ---- Terms: "A method that throws an exception changes nothing."

    private static void due(String what, Class<?> want, Supplier<PuppetTheatre> object, Call call) {
        calls++;
        PuppetTheatre x = object.get();
        String got = "nothing";
        try {
            call.make(x);
        } catch (RuntimeException e) {
            got = e.getClass().getName();
        }
        check.due(what, got, want.getName());
        check.due(what + ", and what comes behind it", storyOf(x), storyOf(object.get()));
    }

    /** The same, on an object that does not RUN and on one that did. */
    private static void dueResting(String what, Class<?> want, Call call) {
        due(what, want, RefusalTest::resting, call);
        due(what + " behind stop()", want, RefusalTest::stopped, call);
    }

    /** All that can be asked now, then all that is done in a RUN, then what each setting was. */
    private static String storyOf(PuppetTheatre x) {
        List<Long> story = new ArrayList<>();
        if (x.isRunning()) {
            run(x, story);
            story.add((long) x.stop());
        }
        story.add(x.digest());
        story.add((long) x.start());
        run(x, story);
        story.add((long) x.stop());
        for (int s = 0; s < x.states(); s++) {
            if (x.ofState(s, 0) < 3) {
                story.add((long) x.setDoing(s, false, 0, 0, 0));
                story.add((long) x.setDoing(s, true, 0, 0, 0));
            }
        }
        for (int t = 0; t < x.transitions(); t++) {
            story.add((long) x.setGuard(t, 0, 0, 0));
            story.add((long) x.setAction(t, 0, 0, 0));
        }
        story.add((long) x.start());
        run(x, story);
        return story.toString();
    }

    private static void run(PuppetTheatre x, List<Long> story) {
        story.add(x.digest());
        story.add(Double.doubleToLongBits(x.meanAge()));
        story.add((long) x.open());
        int[] events = {2, 0, 9, 1, 3, 7, 2};
        for (int event : events) {
            story.add((long) x.wouldFire(event));
            story.add((long) x.wouldBe(event));
            story.add((long) x.send(event));
            story.add(x.digest());
            story.add((long) x.tick(2));
            story.add(x.digest());
        }
        story.add((long) x.rowTo(Math.min(5, x.states() - 1), 3));
        story.add(x.digest());
    }

    // ---- Terms: "If several exceptions apply, the one that is named first is thrown."

    private static void addState() {
        // Promise 2: "Throws IllegalStateException if it RUNS, or there are 20"
        due("addState, it RUNS", STATE, RefusalTest::running, x -> x.addState(0, 0));
        due("addState, it RUNS and is OVER", STATE, RefusalTest::over, x -> x.addState(0, 0));
        due("addState, it RUNS, no STATE", STATE, RefusalTest::running, x -> x.addState(9, 0));
        due("addState, it RUNS, kind 5", STATE, RefusalTest::running, x -> x.addState(0, 5));
        due("addState, it RUNS, all wrong", STATE, RefusalTest::running, x -> x.addState(-1, -1));
        for (int kind = 0; kind <= 4; kind++) {
            int k = kind;
            due("addState of the 21st, " + k, STATE, RefusalTest::fullOfStates, x -> x.addState(0, k));
        }
        due("addState of the 21st, no STATE", STATE, RefusalTest::fullOfStates, x -> x.addState(20, 0));
        due("addState of the 21st, into a MARK", STATE, RefusalTest::fullOfStates, x -> x.addState(3, 0));
        due("addState of the 21st, kind -1", STATE, RefusalTest::fullOfStates, x -> x.addState(0, -1));
        due("addState of the 21st, all wrong", STATE, RefusalTest::fullOfStates, x -> x.addState(MOST, 9));
        // Promise 2: "Throws IndexOutOfBoundsException if there is no such STATE"
        for (int parent : NO_STATES) {
            dueResting("addState(" + parent + ", 0)", INDEX, x -> x.addState(parent, 0));
            dueResting("addState(" + parent + ", 2)", INDEX, x -> x.addState(parent, 2));
            dueResting("addState(" + parent + ", 5)", INDEX, x -> x.addState(parent, 5));
            dueResting("addState(" + parent + ", -1)", INDEX, x -> x.addState(parent, -1));
        }
        // Promise 2: "kind is not 0 to 4"
        int[] noKinds = {-1, 5, 6, 32, LEAST, MOST};
        for (int kind : noKinds) {
            dueResting("addState(0, " + kind + ")", ARGUMENT, x -> x.addState(0, kind));
            dueResting("addState(3, " + kind + ")", ARGUMENT, x -> x.addState(3, kind));
        }
        // Promise 2: "parent is neither PLAIN nor BROAD"
        for (int kind = 0; kind <= 4; kind++) {
            int k = kind;
            dueResting("addState into an END, " + k, ARGUMENT, x -> x.addState(5, k));
            dueResting("addState into a HISTORY, " + k, ARGUMENT, x -> x.addState(6, k));
            dueResting("addState into a DEEP one, " + k, ARGUMENT, x -> x.addState(3, k));
        }
        // Promise 2: "or an END is to be in a BROAD one"
        dueResting("addState of an END into a BROAD one", ARGUMENT, x -> x.addState(2, 2));
    }

    private static void setFirst() {
        // Promise 3: "Throws IllegalStateException if it RUNS"
        due("setFirst, it RUNS", STATE, RefusalTest::running, x -> x.setFirst(0, 2));
        due("setFirst, it RUNS, FIRST already", STATE, RefusalTest::running, x -> x.setFirst(0, 1));
        due("setFirst, it RUNS, no STATE", STATE, RefusalTest::running, x -> x.setFirst(9, -1));
        due("setFirst, it RUNS, no PART", STATE, RefusalTest::over, x -> x.setFirst(0, 4));
        // Promise 3: "Throws IndexOutOfBoundsException if state or part is no STATE that there is"
        for (int none : NO_STATES) {
            dueResting("setFirst(" + none + ", 4)", INDEX, x -> x.setFirst(none, 4));
            dueResting("setFirst(1, " + none + ")", INDEX, x -> x.setFirst(1, none));
            dueResting("setFirst(" + none + ", itself)", INDEX, x -> x.setFirst(none, none));
            // ahead of what is said of a state that is not PLAIN
            dueResting("setFirst(2, " + none + ")", INDEX, x -> x.setFirst(2, none));
            dueResting("setFirst(6, " + none + ")", INDEX, x -> x.setFirst(6, none));
        }
        // Promise 3: "Throws IllegalArgumentException if state is not PLAIN"
        dueResting("setFirst of a BROAD one", ARGUMENT, x -> x.setFirst(2, 7));
        dueResting("setFirst of an END", ARGUMENT, x -> x.setFirst(5, 4));
        dueResting("setFirst of an END to itself", ARGUMENT, x -> x.setFirst(5, 5));
        dueResting("setFirst of a HISTORY", ARGUMENT, x -> x.setFirst(6, 4));
        dueResting("setFirst of a DEEP one", ARGUMENT, x -> x.setFirst(3, 1));
        // Promise 3: "or part is no PART of it"
        dueResting("setFirst to a HISTORY in it", ARGUMENT, x -> x.setFirst(1, 6));
        dueResting("setFirst to a DEEP one in it", ARGUMENT, x -> x.setFirst(0, 3));
        dueResting("setFirst to one beneath a PART", ARGUMENT, x -> x.setFirst(0, 4));
        dueResting("setFirst to itself", ARGUMENT, x -> x.setFirst(1, 1));
        dueResting("setFirst of the ROOT to itself", ARGUMENT, x -> x.setFirst(0, 0));
        dueResting("setFirst to its PARENT", ARGUMENT, x -> x.setFirst(1, 0));
        dueResting("setFirst to a PART of another one", ARGUMENT, x -> x.setFirst(1, 7));
        dueResting("setFirst of a LEAF", ARGUMENT, x -> x.setFirst(4, 5));
        dueResting("setFirst of a LEAF to itself", ARGUMENT, x -> x.setFirst(4, 4));
    }

    private static void setDoing() {
        for (int turn = 0; turn < 2; turn++) {
            boolean is = turn == 1;
            // Promise 4: "Throws IllegalStateException if it RUNS"
            due("setDoing, it RUNS", STATE, RefusalTest::running, x -> x.setDoing(1, is, 1, 0, 0));
            due("setDoing, it RUNS, no STATE", STATE, RefusalTest::running, x -> x.setDoing(9, is, 1, 0, 0));
            due("setDoing, it RUNS, a MARK", STATE, RefusalTest::over, x -> x.setDoing(3, is, 4, 0, 0));
            // Promise 4: "Throws IndexOutOfBoundsException if there is no such STATE"
            for (int none : NO_STATES) {
                dueResting("setDoing(" + none + ")", INDEX, x -> x.setDoing(none, is, 1, 0, 0));
                dueResting("setDoing(" + none + "), code 4", INDEX, x -> x.setDoing(none, is, 4, 0, 0));
            }
            // Promise 4: "Throws IllegalArgumentException if it is a MARK"
            dueResting("setDoing of a HISTORY", ARGUMENT, x -> x.setDoing(6, is, 1, 0, 0));
            dueResting("setDoing of a DEEP one", ARGUMENT, x -> x.setDoing(3, is, 3, 0, 0));
            dueResting("setDoing nothing of a HISTORY", ARGUMENT, x -> x.setDoing(6, is, 0, 0, 0));
            dueResting("setDoing nothing of a DEEP one", ARGUMENT, x -> x.setDoing(3, is, 0, 0, 0));
            // Promise 4: "code is not 0 to 3, what is not 0 to 3 with 1 and 2, or 0 to 9 with 3, or n is not -99 to 99"
            for (int[] wrong : noActions()) {
                String what = "setDoing of " + wrong[0] + " " + wrong[1] + " " + wrong[2];
                dueResting(what, ARGUMENT, x -> x.setDoing(1, is, wrong[0], wrong[1], wrong[2]));
            }
        }
    }

    /** Each is wrong in one place alone, but the last ones. */
    private static List<int[]> noActions() {
        List<int[]> all = new ArrayList<>();
        int[] noCodes = {-1, 4, 5, LEAST, MOST};
        for (int code : noCodes) {
            all.add(new int[] {code, 0, 0});
        }
        for (int code = 1; code <= 2; code++) {
            int[] noVariables = {-1, 4, 9, LEAST, MOST};
            for (int v : noVariables) {
                all.add(new int[] {code, v, 0});
            }
            int[] noNumbers = {-100, 100, LEAST, MOST};
            for (int n : noNumbers) {
                all.add(new int[] {code, 0, n});
                all.add(new int[] {code, 3, n});
            }
            all.add(new int[] {code, 4, 100});
        }
        int[] noEvents = {-1, 10, LEAST, MOST};
        for (int e : noEvents) {
            all.add(new int[] {3, e, 0});
        }
        all.add(new int[] {4, 10, -100});
        return all;
    }

    private static void addTransition() {
        // Promise 5: "Throws IllegalStateException if it RUNS, or there are 30"
        due("addTransition, it RUNS", STATE, RefusalTest::running, x -> x.addTransition(1, 0, 0, 2));
        due("addTransition, OVER", STATE, RefusalTest::over, x -> x.addTransition(1, 0, 0, 2));
        due("addTransition, it RUNS, no STATE", STATE, RefusalTest::running, x -> x.addTransition(9, 0, 0, 9));
        due("addTransition, it RUNS, trigger 4", STATE, RefusalTest::running, x -> x.addTransition(1, 4, 0, 2));
        due("the 31st", STATE, RefusalTest::fullOfTransitions, x -> x.addTransition(1, 0, 0, 2));
        due("the 31st, to none", STATE, RefusalTest::fullOfTransitions, x -> x.addTransition(0, 3, 0, -1));
        due("the 31st, no STATE", STATE, RefusalTest::fullOfTransitions, x -> x.addTransition(9, 0, 0, 2));
        due("the 31st, EVENT 10", STATE, RefusalTest::fullOfTransitions, x -> x.addTransition(1, 0, 10, 2));
        due("the 31st, to the ROOT", STATE, RefusalTest::fullOfTransitions, x -> x.addTransition(1, 0, 0, 0));
        // Promise 5: "Throws IndexOutOfBoundsException if there is no such STATE"
        for (int none : NO_STATES) {
            dueResting("addTransition from " + none, INDEX, x -> x.addTransition(none, 0, 0, 2));
            dueResting("addTransition from " + none + " to none", INDEX, x -> x.addTransition(none, 0, 0, -1));
            dueResting("addTransition from " + none + " to the ROOT", INDEX, x -> x.addTransition(none, 0, 0, 0));
            dueResting("addTransition from " + none + ", trigger 4", INDEX, x -> x.addTransition(none, 4, 0, 2));
            if (none != -1) {
                dueResting("addTransition to " + none, INDEX, x -> x.addTransition(1, 0, 0, none));
                dueResting("addTransition to " + none + ", EVENT 10", INDEX, x -> x.addTransition(1, 0, 10, none));
                dueResting("addTransition from an END to " + none, INDEX, x -> x.addTransition(5, 0, 0, none));
                dueResting("addTransition from the ROOT to " + none, INDEX, x -> x.addTransition(0, 0, 0, none));
            }
        }
        dueResting("addTransition to -2", INDEX, x -> x.addTransition(1, 0, 0, -2));
        // Promise 5: "Throws IllegalArgumentException if from is neither PLAIN nor BROAD"
        int[] noHolders = {3, 5, 6};
        for (int from : noHolders) {
            dueResting("addTransition from " + from + " to 1", ARGUMENT, x -> x.addTransition(from, 0, 0, 1));
            dueResting("addTransition from " + from + " to none", ARGUMENT, x -> x.addTransition(from, 3, 0, -1));
        }
        // Promise 5: "trigger is not 0 to 3"
        int[] noTriggers = {-1, 4, 5, LEAST, MOST};
        for (int trigger : noTriggers) {
            dueResting("trigger " + trigger, ARGUMENT, x -> x.addTransition(1, trigger, 1, 2));
        }
        // Promise 5: "n is not 0 to 9 with 0, or 1 to 50 with 1"
        int[] noEvents = {-1, 10, 50, LEAST, MOST};
        for (int n : noEvents) {
            dueResting("EVENT " + n, ARGUMENT, x -> x.addTransition(1, 0, n, 2));
        }
        int[] noTicks = {-1, 0, 51, LEAST, MOST};
        for (int n : noTicks) {
            dueResting("AFTER " + n, ARGUMENT, x -> x.addTransition(1, 1, n, 2));
        }
        // Promise 5: "to is the ROOT, or there is no SCOPE (from is the ROOT, and to is one)"
        for (int trigger = 0; trigger <= 3; trigger++) {
            int t = trigger;
            dueResting("to the ROOT, trigger " + t, ARGUMENT, x -> x.addTransition(1, t, 1, 0));
            dueResting("from the ROOT to it, trigger " + t, ARGUMENT, x -> x.addTransition(0, t, 1, 0));
            dueResting("from the ROOT to 1, trigger " + t, ARGUMENT, x -> x.addTransition(0, t, 1, 1));
            dueResting("from the ROOT to 3, trigger " + t, ARGUMENT, x -> x.addTransition(0, t, 1, 3));
        }
    }

    private static void setGuard() {
        // Promise 6: "Throws IllegalStateException if it RUNS"
        due("setGuard, it RUNS", STATE, RefusalTest::running, x -> x.setGuard(3, 1, 0, 0));
        due("setGuard to none, it RUNS", STATE, RefusalTest::over, x -> x.setGuard(3, 0, 0, 0));
        due("setGuard, it RUNS, no TRANSITION", STATE, RefusalTest::running, x -> x.setGuard(6, 1, 0, 0));
        due("setGuard, it RUNS, how 4", STATE, RefusalTest::running, x -> x.setGuard(3, 4, 0, 0));
        // Promise 6: "Throws IndexOutOfBoundsException if there is no such TRANSITION"
        for (int none : NO_TRANSITIONS) {
            dueResting("setGuard(" + none + ")", INDEX, x -> x.setGuard(none, 1, 0, 0));
            dueResting("setGuard(" + none + "), how 0", INDEX, x -> x.setGuard(none, 0, 0, 0));
            dueResting("setGuard(" + none + "), how 4", INDEX, x -> x.setGuard(none, 4, 0, 0));
        }
        due("setGuard without any", INDEX, PuppetTheatre::new, x -> x.setGuard(0, 0, 0, 0));
        // Promise 6: "Throws IllegalArgumentException if how is not 0 to 3"
        int[] noHows = {-1, 4, 5, LEAST, MOST};
        for (int how : noHows) {
            dueResting("how " + how, ARGUMENT, x -> x.setGuard(3, how, 0, 0));
        }
        for (int how = 1; how <= 3; how++) {
            int h = how;
            // Promise 6: "variable is not 0 to 3"
            int[] noVariables = {-1, 4, 5, LEAST, MOST};
            for (int v : noVariables) {
                dueResting("how " + h + ", variable " + v, ARGUMENT, x -> x.setGuard(3, h, v, 0));
            }
            // Promise 6: "or n is not -99 to 99"
            int[] noNumbers = {-100, 100, LEAST, MOST};
            for (int n : noNumbers) {
                dueResting("how " + h + ", n " + n, ARGUMENT, x -> x.setGuard(3, h, 0, n));
            }
        }
    }

    private static void setAction() {
        // Promise 7: "Throws IllegalStateException if it RUNS"
        due("setAction, it RUNS", STATE, RefusalTest::running, x -> x.setAction(3, 1, 0, 0));
        due("setAction nothing, it RUNS", STATE, RefusalTest::over, x -> x.setAction(3, 0, 0, 0));
        due("setAction, it RUNS, no TRANSITION", STATE, RefusalTest::running, x -> x.setAction(6, 1, 0, 0));
        due("setAction, it RUNS, code 4", STATE, RefusalTest::running, x -> x.setAction(3, 4, 0, 0));
        // Promise 7: "Throws IndexOutOfBoundsException if there is no such TRANSITION"
        for (int none : NO_TRANSITIONS) {
            dueResting("setAction(" + none + ")", INDEX, x -> x.setAction(none, 1, 0, 0));
            dueResting("setAction(" + none + "), code 0", INDEX, x -> x.setAction(none, 0, 0, 0));
            dueResting("setAction(" + none + "), code 4", INDEX, x -> x.setAction(none, 4, 0, 0));
        }
        due("setAction without any", INDEX, PuppetTheatre::new, x -> x.setAction(0, 0, 0, 0));
        // Promise 7: "code is not 0 to 3, what is not 0 to 3 with 1 and 2, or 0 to 9 with 3, or n is not -99 to 99"
        for (int[] wrong : noActions()) {
            String what = "setAction of " + wrong[0] + " " + wrong[1] + " " + wrong[2];
            dueResting(what, ARGUMENT, x -> x.setAction(3, wrong[0], wrong[1], wrong[2]));
        }
    }

    private static void startAndStop() {
        // Promise 8: "Throws IllegalStateException if it RUNS"
        due("start(), it RUNS", STATE, RefusalTest::running, x -> x.start());
        due("start(), it RUNS and is OVER", STATE, RefusalTest::over, x -> x.start());
        // Promise 9: "Throws IllegalStateException if it does not RUN"
        due("stop() of a new one", STATE, PuppetTheatre::new, x -> x.stop());
        dueResting("stop()", STATE, x -> x.stop());
    }

    private static void send() {
        int[] noEvents = {-1, 10, 11, LEAST, MOST};
        // Promise 10: "Throws IllegalStateException if it does not RUN"
        dueResting("send(0)", STATE, x -> x.send(0));
        for (int event : noEvents) {
            dueResting("send(" + event + ")", STATE, x -> x.send(event));
        }
        // Promise 10: "Throws IllegalArgumentException if event is not 0 to 9"
        for (int event : noEvents) {
            due("send(" + event + ")", ARGUMENT, RefusalTest::running, x -> x.send(event));
            due("send(" + event + ") as it is OVER", ARGUMENT, RefusalTest::over, x -> x.send(event));
        }
    }

    private static void tick() {
        int[] noTicks = {-1, 0, 51, 52, LEAST, MOST};
        // Promise 11: "Throws IllegalStateException if it does not RUN"
        dueResting("tick(1)", STATE, x -> x.tick(1));
        for (int ticks : noTicks) {
            dueResting("tick(" + ticks + ")", STATE, x -> x.tick(ticks));
        }
        // Promise 11: "Throws IllegalArgumentException if ticks is not 1 to 50"
        for (int ticks : noTicks) {
            due("tick(" + ticks + ")", ARGUMENT, RefusalTest::running, x -> x.tick(ticks));
            due("tick(" + ticks + ") as it is OVER", ARGUMENT, RefusalTest::over, x -> x.tick(ticks));
        }
    }

    /** What is asked may be asked at any time, so it is refused at any time. */
    private static void dueAlways(String what, Class<?> want, Call call) {
        dueResting(what, want, call);
        due(what + ", it RUNS", want, RefusalTest::running, call);
    }

    private static void ofState() {
        // Promise 14: "Throws IndexOutOfBoundsException if there is no such STATE"
        for (int none : NO_STATES) {
            dueAlways("ofState(" + none + ", 0)", INDEX, x -> x.ofState(none, 0));
            dueAlways("ofState(" + none + ", 4)", INDEX, x -> x.ofState(none, 4));
            dueAlways("ofState(" + none + ", -1)", INDEX, x -> x.ofState(none, -1));
        }
        // Promise 14: "Throws IllegalArgumentException if what is not 0 to 3"
        int[] nothing = {-1, 4, 5, LEAST, MOST};
        for (int what : nothing) {
            for (int s = 0; s < 9; s++) {
                int state = s;
                dueAlways("ofState(" + s + ", " + what + ")", ARGUMENT, x -> x.ofState(state, what));
            }
        }
    }

    private static void askingOfStates() {
        for (int none : NO_STATES) {
            // Promise 18: "Throws IndexOutOfBoundsException if there is no such STATE"
            dueAlways("isEnded(" + none + ")", INDEX, x -> x.isEnded(none));
            // Promise 19: "Throws IndexOutOfBoundsException if there is no such STATE"
            dueAlways("ageOf(" + none + ")", INDEX, x -> x.ageOf(none));
            // Promise 20: "Throws IndexOutOfBoundsException if there is no such STATE"
            dueAlways("record(" + none + ")", INDEX, x -> x.record(none));
        }
        // Promise 20: "Throws IllegalArgumentException if it is no MARK"
        int[] noMarks = {0, 1, 2, 4, 5, 7, 8};
        for (int s : noMarks) {
            dueAlways("record(" + s + ")", ARGUMENT, x -> x.record(s));
        }
    }

    private static void askingOfOthers() {
        // Promise 21: "Throws IndexOutOfBoundsException if there is no such variable"
        int[] noVariables = {-1, 4, 5, LEAST, MOST};
        for (int v : noVariables) {
            dueAlways("variable(" + v + ")", INDEX, x -> x.variable(v));
        }
        // Promise 23: "Throws IndexOutOfBoundsException if there is no such TRANSITION"
        for (int none : NO_TRANSITIONS) {
            dueAlways("fired(" + none + ")", INDEX, x -> x.fired(none));
        }
        due("fired(0) without any", INDEX, PuppetTheatre::new, x -> x.fired(0));
    }

    private static void would() {
        int[] noEvents = {-1, 10, 11, LEAST, MOST};
        // Promise 27: "Throws IllegalStateException if it does not RUN"
        dueResting("wouldFire(0)", STATE, x -> x.wouldFire(0));
        // Promise 28: "Throws IllegalStateException if it does not RUN"
        dueResting("wouldBe(0)", STATE, x -> x.wouldBe(0));
        for (int event : noEvents) {
            dueResting("wouldFire(" + event + ")", STATE, x -> x.wouldFire(event));
            dueResting("wouldBe(" + event + ")", STATE, x -> x.wouldBe(event));
            // Promise 27: "Throws IllegalArgumentException if event is not 0 to 9"
            due("wouldFire(" + event + ")", ARGUMENT, RefusalTest::running, x -> x.wouldFire(event));
            due("wouldFire(" + event + "), OVER", ARGUMENT, RefusalTest::over, x -> x.wouldFire(event));
            // Promise 28: "Throws IllegalArgumentException if event is not 0 to 9"
            due("wouldBe(" + event + ")", ARGUMENT, RefusalTest::running, x -> x.wouldBe(event));
            due("wouldBe(" + event + "), OVER", ARGUMENT, RefusalTest::over, x -> x.wouldBe(event));
        }
    }

    private static void open() {
        // Promise 29: "Throws IllegalStateException if it does not RUN"
        due("open() of a new one", STATE, PuppetTheatre::new, x -> x.open());
        dueResting("open()", STATE, x -> x.open());
    }

    private static final int[] NO_MOSTS = {-1, 0, 9, 10, LEAST, MOST};

    private static void rowTo() {
        // Promise 30: "Throws IllegalStateException if it does not RUN"
        dueResting("rowTo(0, 1)", STATE, x -> x.rowTo(0, 1));
        dueResting("rowTo(9, 1)", STATE, x -> x.rowTo(9, 1));
        dueResting("rowTo(0, 9)", STATE, x -> x.rowTo(0, 9));
        dueResting("rowTo(-1, 0)", STATE, x -> x.rowTo(-1, 0));
        // Promise 30: "Throws IndexOutOfBoundsException if there is no such STATE"
        for (int none : NO_STATES) {
            due("rowTo(" + none + ", 1)", INDEX, RefusalTest::running, x -> x.rowTo(none, 1));
            due("rowTo(" + none + ", 0)", INDEX, RefusalTest::running, x -> x.rowTo(none, 0));
            due("rowTo(" + none + ", 9)", INDEX, RefusalTest::running, x -> x.rowTo(none, 9));
        }
        // Promise 30: "Throws IllegalArgumentException if most is not 1 to 8"
        for (int most : NO_MOSTS) {
            due("rowTo(0, " + most + "), ACTIVE", ARGUMENT, RefusalTest::running, x -> x.rowTo(0, most));
            due("rowTo(5, " + most + ")", ARGUMENT, RefusalTest::running, x -> x.rowTo(5, most));
            due("rowTo(3, " + most + "), a MARK", ARGUMENT, RefusalTest::over, x -> x.rowTo(3, most));
        }
    }

    private static void rowFor() {
        // Promise 31: "Throws IllegalStateException if it does not RUN"
        dueResting("rowFor(0, 1)", STATE, x -> x.rowFor(0, 1));
        dueResting("rowFor(6, 1)", STATE, x -> x.rowFor(6, 1));
        dueResting("rowFor(0, 9)", STATE, x -> x.rowFor(0, 9));
        dueResting("rowFor(-1, 0)", STATE, x -> x.rowFor(-1, 0));
        // Promise 31: "Throws IndexOutOfBoundsException if there is no such TRANSITION"
        for (int none : NO_TRANSITIONS) {
            due("rowFor(" + none + ", 1)", INDEX, RefusalTest::running, x -> x.rowFor(none, 1));
            due("rowFor(" + none + ", 0)", INDEX, RefusalTest::running, x -> x.rowFor(none, 0));
            due("rowFor(" + none + ", 9)", INDEX, RefusalTest::running, x -> x.rowFor(none, 9));
        }
        // Promise 31: "Throws IllegalArgumentException if most is not 1 to 8"
        for (int most : NO_MOSTS) {
            due("rowFor(0, " + most + ")", ARGUMENT, RefusalTest::running, x -> x.rowFor(0, most));
            due("rowFor(5, " + most + "), OVER", ARGUMENT, RefusalTest::over, x -> x.rowFor(5, most));
        }
    }
}
