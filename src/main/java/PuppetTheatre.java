/**
 * An engine of state charts.
 *
 * <p>The words in capitals are those of the document. Sets of STATES, of TRANSITIONS and of events
 * are held as the document tells them: the sum of 2^k for each k in it. A STATE's number is greater
 * than its PARENT's, so one pass over the numbers comes to each STATE behind (or, downward, ahead
 * of) all above it; that is why nothing here needs recursion.
 */
public final class PuppetTheatre {
    private static final int NONE = -1;
    private static final int ROOT = 0;
    private static final int MOST_STATES = 20;
    private static final int MOST_TRANSITIONS = 30;
    private static final int VARIABLES = 4;
    private static final int EVENTS = 10;
    private static final int MOST_NUMBER = 99;
    private static final int MOST_TICKS = 50;

    private static final int PLAIN = 0;
    private static final int BROAD = 1;
    private static final int END = 2;
    private static final int HISTORY = 3;
    private static final int DEEP = 4;

    private static final int NOTHING = 0;
    private static final int SET = 1;
    private static final int ADD = 2;
    private static final int RAISE = 3;

    private static final int EVENT = 0;
    private static final int AFTER = 1;
    private static final int ENDED = 2;
    private static final int ALWAYS = 3;

    /** What a STEP is by: 0 to 9 that event, else one of these. A ROW tells its calls likewise. */
    private static final int TICK = 10;
    private static final int ITSELF = 11;
    private static final int CAUSES = 12;

    private static final int UNGUARDED = 0;
    private static final int LESS = 1;
    private static final int EQUAL = 2;
    private static final int GREATER = 3;

    private static final int QUEUE_PLACES = 8;
    private static final int MOST_FIRING_STEPS = 12;
    /** Far above what 12 STEPS that FIRE, with at most 8 events behind each, can need. */
    private static final int MOST_ROUNDS = 1000;

    private static final int MOST_LOOKED = 60;
    private static final int MOST_CALLS = 8;
    /** AGES from here on are the same for a look: no AFTER can tell them apart. */
    private static final int OLD_AGE = 50;

    private static final long DIGEST_START = 58059L;

    private final Chart chart = new Chart();
    private final Play play = new Play(chart);
    private final Play trial = new Play(chart);
    private final Look look = new Look(trial);
    private boolean running;

    /** Creates an engine with the ROOT, that does not RUN. */
    public PuppetTheatre() {
    }

    // ---- the chart (while it does not RUN)

    /** Adds a STATE and returns its number. */
    public int addState(int parent, int kind)
            throws IllegalStateException, IndexOutOfBoundsException, IllegalArgumentException {
        if (running || chart.stateCount >= MOST_STATES) {
            throw new IllegalStateException();
        }
        checkState(parent);
        if (!isWithin(kind, PLAIN, DEEP) || !chart.states[parent].isHolder()) {
            throw new IllegalArgumentException();
        }
        if (kind == END && chart.states[parent].kind == BROAD) {
            throw new IllegalArgumentException();
        }
        return chart.putState(parent, kind);
    }

    /** Sets FIRST of a PLAIN STATE and returns FIRST before. */
    public int setFirst(int state, int part)
            throws IllegalStateException, IndexOutOfBoundsException, IllegalArgumentException {
        checkResting();
        checkState(state);
        checkState(part);
        State whole = chart.states[state];
        if (whole.kind != PLAIN || !has(whole.parts, part)) {
            throw new IllegalArgumentException();
        }
        int before = whole.first;
        whole.putFirst(part);
        return before;
    }

    /** Sets the ACTION of a STATE for entering or for leaving it and returns the code before. */
    public int setDoing(int state, boolean isLeaving, int code, int what, int n)
            throws IllegalStateException, IndexOutOfBoundsException, IllegalArgumentException {
        checkResting();
        checkState(state);
        State whose = chart.states[state];
        if (whose.isMark() || !isAction(code, what, n)) {
            throw new IllegalArgumentException();
        }
        Action action = isLeaving ? whose.leaving : whose.entering;
        return action.become(code, what, n);
    }

    /** Adds a TRANSITION and returns its number. */
    public int addTransition(int from, int trigger, int n, int to)
            throws IllegalStateException, IndexOutOfBoundsException, IllegalArgumentException {
        if (running || chart.transitionCount >= MOST_TRANSITIONS) {
            throw new IllegalStateException();
        }
        checkState(from);
        if (to != NONE) {
            checkState(to);
        }
        if (!chart.states[from].isHolder() || !isTrigger(trigger, n)) {
            throw new IllegalArgumentException();
        }
        if (to == ROOT || (from == ROOT && to != NONE)) {
            throw new IllegalArgumentException();
        }
        return chart.putTransition(from, trigger, n, to);
    }

    /** Sets the GUARD of a TRANSITION and returns how before. */
    public int setGuard(int transition, int how, int variable, int n)
            throws IllegalStateException, IndexOutOfBoundsException, IllegalArgumentException {
        checkResting();
        checkTransition(transition);
        if (!isGuard(how, variable, n)) {
            throw new IllegalArgumentException();
        }
        Transition guarded = chart.transitions[transition];
        int before = guarded.how;
        guarded.how = how;
        guarded.variable = variable;
        guarded.bound = n;
        return before;
    }

    /** Sets the ACTION of a TRANSITION and returns the code before. */
    public int setAction(int transition, int code, int what, int n)
            throws IllegalStateException, IndexOutOfBoundsException, IllegalArgumentException {
        checkResting();
        checkTransition(transition);
        if (!isAction(code, what, n)) {
            throw new IllegalArgumentException();
        }
        return chart.transitions[transition].action.become(code, what, n);
    }

    // ---- running

    /** STARTS it and returns how many TRANSITIONS FIRED. */
    public int start() throws IllegalStateException {
        checkResting();
        running = true;
        play.reset();
        play.enter(chart.filled(setOf(ROOT)));
        return play.proceed(ITSELF);
    }

    /** Lets it not RUN any more and returns how many STATES were ACTIVE. */
    public int stop() throws IllegalStateException {
        checkRunning();
        running = false;
        int count = Integer.bitCount(play.situation.active);
        play.situation.deactivate();
        return count;
    }

    /** Sends an event and returns how many TRANSITIONS FIRED. */
    public int send(int event) throws IllegalStateException, IllegalArgumentException {
        checkRunning();
        checkEvent(event);
        return play.proceed(event);
    }

    /** Lets ticks pass, as long as it is not OVER, and returns how many TRANSITIONS FIRED. */
    public int tick(int ticks) throws IllegalStateException, IllegalArgumentException {
        checkRunning();
        if (!isWithin(ticks, 1, MOST_TICKS)) {
            throw new IllegalArgumentException();
        }
        int count = 0;
        for (int passed = 0; passed < ticks; passed++) {
            count += play.proceed(TICK);
        }
        return count;
    }

    // ---- asking

    /** Returns how many STATES there are. */
    public int states() {
        return chart.stateCount;
    }

    /** Returns how many TRANSITIONS there are. */
    public int transitions() {
        return chart.transitionCount;
    }

    /** Returns of a STATE: 0 its kind, 1 its PARENT, 2 FIRST, 3 how many PARTS it has. */
    public int ofState(int state, int what)
            throws IndexOutOfBoundsException, IllegalArgumentException {
        checkState(state);
        State asked = chart.states[state];
        switch (what) {
            case 0:
                return asked.kind;
            case 1:
                return asked.parent;
            case 2:
                return asked.first;
            case 3:
                return Integer.bitCount(asked.parts);
            default:
                throw new IllegalArgumentException();
        }
    }

    /** Returns whether it RUNS. */
    public boolean isRunning() {
        return running;
    }

    /** Returns the set of STATES that are ACTIVE. */
    public int active() {
        return play.situation.active;
    }

    /** Returns whether it RUNS, and is OVER. */
    public boolean isOver() {
        return running && play.isAtEnd();
    }

    /** Returns whether a STATE is ENDED. */
    public boolean isEnded(int state) throws IndexOutOfBoundsException {
        checkState(state);
        return has(chart.endedAmong(play.situation.active), state);
    }

    /** Returns the AGE of a STATE; -1 if it is not ACTIVE. */
    public int ageOf(int state) throws IndexOutOfBoundsException {
        checkState(state);
        return play.situation.ages[state];
    }

    /** Returns the RECORD of a MARK; 0 if it has none. */
    public int record(int state) throws IndexOutOfBoundsException, IllegalArgumentException {
        checkState(state);
        if (!chart.states[state].isMark()) {
            throw new IllegalArgumentException();
        }
        return play.situation.records[state];
    }

    /** Returns the number of a variable. */
    public int variable(int variable) throws IndexOutOfBoundsException {
        if (!isWithin(variable, 0, VARIABLES - 1)) {
            throw new IndexOutOfBoundsException();
        }
        return play.situation.variables[variable];
    }

    /** Returns the clock. */
    public int clock() {
        return play.clock;
    }

    /** Returns how often a TRANSITION FIRED since it was STARTED last. */
    public int fired(int transition) throws IndexOutOfBoundsException {
        checkTransition(transition);
        return play.fired[transition];
    }

    /** Returns how many TRANSITIONS FIRED at least once since it was STARTED last. */
    public int covered() {
        int count = 0;
        for (int t = 0; t < chart.transitionCount; t++) {
            if (play.fired[t] > 0) {
                count++;
            }
        }
        return count;
    }

    /** Returns how many events were LOST since it was STARTED last. */
    public int lost() {
        return play.lost;
    }

    /** Returns how often it was RESTLESS since it was STARTED last. */
    public int restless() {
        return play.restless;
    }

    // ---- what would be, and rows of events (nothing is changed)

    /** Returns how many TRANSITIONS send() would FIRE. */
    public int wouldFire(int event) throws IllegalStateException, IllegalArgumentException {
        checkRunning();
        checkEvent(event);
        trial.situation.copyFrom(play.situation);
        return trial.proceed(event);
    }

    /** Returns the set of STATES that would be ACTIVE behind send(). */
    public int wouldBe(int event) throws IllegalStateException, IllegalArgumentException {
        checkRunning();
        checkEvent(event);
        trial.situation.copyFrom(play.situation);
        trial.proceed(event);
        return trial.situation.active;
    }

    /** Returns the set of events for which a TRANSITION is OPEN. */
    public int open() throws IllegalStateException {
        checkRunning();
        int set = 0;
        for (int event = 0; event < EVENTS; event++) {
            if (play.openBy(event) != 0) {
                set |= setOf(event);
            }
        }
        return set;
    }

    /** Looks for a shortest ROW to a STATE and returns how many calls it has; -1 without one. */
    public int rowTo(int state, int most)
            throws IllegalStateException, IndexOutOfBoundsException, IllegalArgumentException {
        checkRunning();
        checkState(state);
        checkMost(most);
        return look.search(play.situation, state, NONE, most);
    }

    /** Looks likewise for a shortest ROW whose last call FIRES a TRANSITION. */
    public int rowFor(int transition, int most)
            throws IllegalStateException, IndexOutOfBoundsException, IllegalArgumentException {
        checkRunning();
        checkTransition(transition);
        checkMost(most);
        return look.search(play.situation, NONE, transition, most);
    }

    /** Returns the call at a place of the ROW found last; -1 if it has none there. */
    public int rowAt(int place) {
        return isWithin(place, 0, look.rowLength - 1) ? look.row[place] : NONE;
    }

    /** Returns how many SITUATIONS the latest look looked at. */
    public int looked() {
        return look.lookedAt;
    }

    /** Returns the mean of the AGES of all STATES that are ACTIVE; 0 without any. */
    public double meanAge() {
        int count = Integer.bitCount(play.situation.active);
        if (count == 0) {
            return 0.0;
        }
        int sum = 0;
        for (int s = 0; s < chart.stateCount; s++) {
            if (has(play.situation.active, s)) {
                sum += play.situation.ages[s];
            }
        }
        return (double) sum / count;
    }

    /** Computes a checksum over all that can be asked. */
    public long digest() {
        long d = DIGEST_START;
        d = d * 31 + states();
        d = d * 31 + transitions();
        d = d * 31 + (isRunning() ? 1 : 0);
        d = d * 31 + active();
        d = d * 31 + (isOver() ? 1 : 0);
        d = d * 31 + clock();
        d = d * 31 + covered();
        d = d * 31 + lost();
        d = d * 31 + restless();
        d = d * 31 + looked();
        d = digestOfStates(d);
        for (int v = 0; v < VARIABLES; v++) {
            d = d * 31 + variable(v);
        }
        for (int t = 0; t < chart.transitionCount; t++) {
            d = d * 31 + fired(t);
        }
        for (int place = 0; place < MOST_CALLS; place++) {
            d = d * 31 + rowAt(place);
        }
        return d;
    }

    private long digestOfStates(long start) {
        long d = start;
        int ended = chart.endedAmong(play.situation.active);
        for (int s = 0; s < chart.stateCount; s++) {
            for (int what = 0; what < 4; what++) {
                d = d * 31 + ofState(s, what);
            }
            d = d * 31 + (has(ended, s) ? 1 : 0);
            d = d * 31 + ageOf(s);
            if (chart.states[s].isMark()) {
                d = d * 31 + record(s);
            }
        }
        return d;
    }

    private void checkResting() {
        if (running) {
            throw new IllegalStateException();
        }
    }

    private void checkRunning() {
        if (!running) {
            throw new IllegalStateException();
        }
    }

    private void checkState(int state) {
        if (!isWithin(state, 0, chart.stateCount - 1)) {
            throw new IndexOutOfBoundsException();
        }
    }

    private void checkTransition(int transition) {
        if (!isWithin(transition, 0, chart.transitionCount - 1)) {
            throw new IndexOutOfBoundsException();
        }
    }

    private static void checkEvent(int event) {
        if (!isWithin(event, 0, EVENTS - 1)) {
            throw new IllegalArgumentException();
        }
    }

    private static void checkMost(int most) {
        if (!isWithin(most, 1, MOST_CALLS)) {
            throw new IllegalArgumentException();
        }
    }

    private static boolean isTrigger(int trigger, int n) {
        if (trigger == EVENT) {
            return isWithin(n, 0, EVENTS - 1);
        }
        if (trigger == AFTER) {
            return isWithin(n, 1, MOST_TICKS);
        }
        return trigger == ENDED || trigger == ALWAYS;
    }

    private static boolean isGuard(int how, int variable, int n) {
        if (how == UNGUARDED) {
            return true;
        }
        return isWithin(how, LESS, GREATER) && isWithin(variable, 0, VARIABLES - 1) && isNumber(n);
    }

    private static boolean isAction(int code, int what, int n) {
        if (code == NOTHING) {
            return true;
        }
        if (code == RAISE) {
            return isWithin(what, 0, EVENTS - 1);
        }
        return isWithin(code, SET, ADD) && isWithin(what, 0, VARIABLES - 1) && isNumber(n);
    }

    private static boolean isNumber(int n) {
        return isWithin(n, -MOST_NUMBER, MOST_NUMBER);
    }

    private static boolean isWithin(int x, int low, int high) {
        return x >= low && x <= high;
    }

    private static int setOf(int k) {
        return 1 << k;
    }

    private static boolean has(int set, int k) {
        return (set >> k & 1) != 0;
    }

    /** An ACTION; what and n are looked at only where the code needs them. */
    private static final class Action {
        int code;
        int what;
        int n;

        int become(int newCode, int newWhat, int newN) {
            int before = code;
            code = newCode;
            what = newWhat;
            n = newN;
            return before;
        }
    }

    /**
     * A STATE. What is FILLED with it is FIRST of a PLAIN one, and all PARTS of a BROAD one; that,
     * parts, beneath and departing (the TRANSITIONS from it) are sets.
     */
    private static final class State {
        final Action entering = new Action();
        final Action leaving = new Action();
        int kind = PLAIN;
        int parent = NONE;
        int first = NONE;
        int parts;
        int filledWith;
        int beneath;
        int departing;

        boolean isMark() {
            return kind == HISTORY || kind == DEEP;
        }

        boolean isHolder() {
            return kind == PLAIN || kind == BROAD;
        }

        void putFirst(int part) {
            first = part;
            filledWith = setOf(part);
        }

        void putPart(int part) {
            if (kind == PLAIN && parts == 0) {
                putFirst(part);
            }
            parts |= setOf(part);
            if (kind == BROAD) {
                filledWith = parts;
            }
        }
    }

    /** A TRANSITION with its TRIGGER, its GUARD and its ACTION. */
    private static final class Transition {
        final Action action = new Action();
        int from;
        int trigger;
        int n;
        int to = NONE;
        int scope = NONE;
        int how = UNGUARDED;
        int variable;
        int bound;

        boolean isAllowed(int[] variables) {
            switch (how) {
                case LESS:
                    return variables[variable] < bound;
                case EQUAL:
                    return variables[variable] == bound;
                case GREATER:
                    return variables[variable] > bound;
                default:
                    return true;
            }
        }
    }

    /** The STATES and the TRANSITIONS: what does not change while it RUNS. */
    private static final class Chart {
        final State[] states = new State[MOST_STATES];
        final Transition[] transitions = new Transition[MOST_TRANSITIONS];
        /** The sets of TRANSITIONS that can be OPEN in a STEP by each cause. */
        final int[] causedBy = new int[CAUSES];
        int stateCount = 1;
        int transitionCount;
        int leaves = setOf(ROOT);
        int ends;

        Chart() {
            for (int s = 0; s < states.length; s++) {
                states[s] = new State();
            }
            for (int t = 0; t < transitions.length; t++) {
                transitions[t] = new Transition();
            }
        }

        int putState(int parent, int kind) {
            int number = stateCount;
            State added = states[number];
            added.kind = kind;
            added.parent = parent;
            stateCount++;
            for (int s = 0; s < number; s++) {
                if (s == parent || has(states[s].beneath, parent)) {
                    states[s].beneath |= setOf(number);
                }
            }
            if (!added.isMark()) {
                states[parent].putPart(number);
                leaves = leaves & ~setOf(parent) | setOf(number);
            }
            if (kind == END) {
                ends |= setOf(number);
            }
            return number;
        }

        int putTransition(int from, int trigger, int n, int to) {
            int number = transitionCount;
            Transition added = transitions[number];
            added.from = from;
            added.trigger = trigger;
            added.n = n;
            added.to = to;
            added.scope = to == NONE ? NONE : scopeOf(from, to);
            states[from].departing |= setOf(number);
            causedBy[causeOf(trigger, n)] |= setOf(number);
            transitionCount++;
            return number;
        }

        private static int causeOf(int trigger, int n) {
            if (trigger == EVENT) {
                return n;
            }
            return trigger == AFTER ? TICK : ITSELF;
        }

        private int scopeOf(int from, int to) {
            int both = setOf(from) | setOf(to);
            for (int s = from - 1; s > ROOT; s--) {
                if (states[s].kind == PLAIN && (states[s].beneath & both) == both) {
                    return s;
                }
            }
            return ROOT;
        }

        /** The set of all that is ENTERED as each STATE of a set is FILLED. */
        int filled(int set) {
            int all = set;
            for (int s = 0; s < stateCount; s++) {
                if (has(all, s)) {
                    all |= states[s].filledWith;
                }
            }
            return all;
        }

        /** The set of all that is ENTERED as one goes INTO the STATES of a set from a SCOPE. */
        int enteredInto(int targets, int scope) {
            int path = 0;
            int toFill = targets;
            for (int s = scope + 1; s < stateCount; s++) {
                if (has(states[scope].beneath, s) && (states[s].beneath & targets) != 0) {
                    path |= setOf(s);
                    if (states[s].kind == BROAD) {
                        toFill |= partsAside(s, targets);
                    }
                }
            }
            return path | filled(toFill);
        }

        /** The PARTS of a STATE that are none of the targets, and beneath which none of them is. */
        private int partsAside(int state, int targets) {
            int aside = states[state].parts & ~targets;
            for (int s = state + 1; s < stateCount; s++) {
                if ((states[s].beneath & targets) != 0) {
                    aside &= ~setOf(s);
                }
            }
            return aside;
        }

        /** The set of STATES that are ENDED while those of a set are ACTIVE. */
        int endedAmong(int active) {
            int ended = 0;
            for (int s = stateCount - 1; s >= 0; s--) {
                int parts = states[s].parts;
                boolean isPlainEnded = states[s].kind == PLAIN && (parts & ends & active) != 0;
                boolean isBroadEnded =
                        states[s].kind == BROAD && parts != 0 && (parts & ~ended) == 0;
                if (isPlainEnded || isBroadEnded) {
                    ended |= setOf(s);
                }
            }
            return ended;
        }
    }

    /** What a look tells apart: the STATES that are ACTIVE, AGES, RECORDS and variables. */
    private static final class Situation {
        /** -1 for what is not ACTIVE. */
        final int[] ages = new int[MOST_STATES];
        final int[] records = new int[MOST_STATES];
        final int[] variables = new int[VARIABLES];
        int active;

        Situation() {
            for (int s = 0; s < ages.length; s++) {
                ages[s] = NONE;
            }
        }

        void deactivate() {
            active = 0;
            for (int s = 0; s < ages.length; s++) {
                ages[s] = NONE;
            }
        }

        void clear() {
            deactivate();
            for (int s = 0; s < records.length; s++) {
                records[s] = 0;
            }
            for (int v = 0; v < variables.length; v++) {
                variables[v] = 0;
            }
        }

        void add(int variable, int n) {
            int sum = variables[variable] + n;
            variables[variable] = Math.max(-MOST_NUMBER, Math.min(MOST_NUMBER, sum));
        }

        void copyFrom(Situation other) {
            active = other.active;
            System.arraycopy(other.ages, 0, ages, 0, ages.length);
            System.arraycopy(other.records, 0, records, 0, records.length);
            System.arraycopy(other.variables, 0, variables, 0, variables.length);
        }

        boolean isSameAs(Situation other) {
            if (active != other.active) {
                return false;
            }
            for (int v = 0; v < variables.length; v++) {
                if (variables[v] != other.variables[v]) {
                    return false;
                }
            }
            for (int s = 0; s < ages.length; s++) {
                if (Math.min(ages[s], OLD_AGE) != Math.min(other.ages[s], OLD_AGE)
                        || records[s] != other.records[s]) {
                    return false;
                }
            }
            return true;
        }
    }

    /** A chart that RUNS: its SITUATION, its QUEUE and what is counted. */
    private static final class Play {
        final Chart chart;
        final Situation situation = new Situation();
        final int[] fired = new int[MOST_TRANSITIONS];
        /** The set of TRANSITIONS that FIRED in the latest call (or tick). */
        int firedLast;
        int clock;
        int lost;
        int restless;
        private final int[] queue = new int[QUEUE_PLACES];
        private int queued;
        /** The TRANSITIONS that are taken in a STEP, in the order in which they came. */
        private final int[] taken = new int[MOST_TRANSITIONS];
        private int takenCount;

        Play(Chart chart) {
            this.chart = chart;
        }

        void reset() {
            situation.clear();
            for (int t = 0; t < fired.length; t++) {
                fired[t] = 0;
            }
            clock = 0;
            lost = 0;
            restless = 0;
            queued = 0;
        }

        boolean isAtEnd() {
            return (chart.states[ROOT].parts & chart.ends & situation.active) != 0;
        }

        /**
         * A STEP (a tick ahead of it, if it is by that), and then it SETTLES; nothing if it is OVER.
         * Returns how many TRANSITIONS FIRED.
         */
        int proceed(int firstCause) {
            firedLast = 0;
            if (isAtEnd()) {
                loseQueue();
                return 0;
            }
            if (firstCause == TICK) {
                growOlder();
            }
            int cause = firstCause;
            int count = 0;
            int firingSteps = 0;
            for (int round = 0; round < MOST_ROUNDS; round++) {
                int now = step(cause);
                count += now;
                firingSteps += now > 0 ? 1 : 0;
                if (isAtEnd()) {
                    loseQueue();
                    return count;
                }
                if (firingSteps == MOST_FIRING_STEPS) {
                    loseQueue();
                    restless++;
                    return count;
                }
                if (now > 0 || cause != ITSELF) {
                    cause = ITSELF;
                } else if (queued > 0) {
                    cause = nextEvent();
                } else {
                    return count;
                }
            }
            return count;
        }

        private void growOlder() {
            clock++;
            for (int s = 0; s < chart.stateCount; s++) {
                if (has(situation.active, s)) {
                    situation.ages[s]++;
                }
            }
        }

        private void raise(int event) {
            if (queued < queue.length) {
                queue[queued] = event;
                queued++;
            } else {
                lost++;
            }
        }

        private void loseQueue() {
            lost += queued;
            queued = 0;
        }

        /** Takes the first event out of the QUEUE, which is not empty. */
        private int nextEvent() {
            int event = queue[0];
            for (int place = 1; place < queue.length; place++) {
                queue[place - 1] = queue[place];
            }
            queued--;
            return event;
        }

        /** Returns how many TRANSITIONS FIRED. */
        private int step(int cause) {
            int open = openBy(cause);
            if (open == 0) {
                return 0;
            }
            choose(open);
            int left = 0;
            for (int i = 0; i < takenCount; i++) {
                left |= leftBy(chart.transitions[taken[i]]);
            }
            makeRecords(left);
            leave(left);
            int entered = 0;
            for (int i = 0; i < takenCount; i++) {
                Transition each = chart.transitions[taken[i]];
                act(each.action);
                if (each.to != NONE) {
                    entered |= chart.enteredInto(targetsOf(each), each.scope);
                }
                fired[taken[i]]++;
                firedLast |= setOf(taken[i]);
            }
            enter(entered);
            return takenCount;
        }

        /** The set of TRANSITIONS that are OPEN in a STEP by a cause. */
        int openBy(int cause) {
            int caused = chart.causedBy[cause];
            if (caused == 0) {
                return 0;
            }
            int ended = chart.endedAmong(situation.active);
            int open = 0;
            for (int t = 0; t < chart.transitionCount; t++) {
                if (has(caused, t) && isOpen(chart.transitions[t], ended)) {
                    open |= setOf(t);
                }
            }
            return open;
        }

        /** Whether a TRANSITION is OPEN in a STEP by its cause. */
        private boolean isOpen(Transition each, int ended) {
            if (!has(situation.active, each.from) || !each.isAllowed(situation.variables)) {
                return false;
            }
            switch (each.trigger) {
                case AFTER:
                    return situation.ages[each.from] == each.n;
                case ENDED:
                    return has(ended, each.from);
                default:
                    return true;
            }
        }

        /** Lets the CHOSEN TRANSITIONS come one by one, each once. */
        private void choose(int open) {
            takenCount = 0;
            int came = 0;
            int active = chart.leaves & situation.active;
            for (int leaf = 0; leaf < chart.stateCount; leaf++) {
                int transition = has(active, leaf) ? nearestOpen(leaf, open) : NONE;
                if (transition != NONE && !has(came, transition)) {
                    came |= setOf(transition);
                    takeIfFree(transition);
                }
            }
        }

        private int nearestOpen(int leaf, int open) {
            for (int s = leaf; s >= 0; s--) {
                boolean isOnTheWay = s == leaf || has(chart.states[s].beneath, leaf);
                if (isOnTheWay && (chart.states[s].departing & open) != 0) {
                    return smallestOf(chart.states[s].departing & open);
                }
            }
            return NONE;
        }

        /** The smallest number of a set that is not empty: it has as many bits below it. */
        private static int smallestOf(int set) {
            return Integer.bitCount((set & -set) - 1);
        }

        private void takeIfFree(int transition) {
            Transition coming = chart.transitions[transition];
            int left = leftBy(coming);
            for (int i = 0; i < takenCount; i++) {
                Transition other = chart.transitions[taken[i]];
                if ((leftBy(other) & left) != 0
                        && !has(chart.states[other.from].beneath, coming.from)) {
                    return;
                }
            }
            int kept = 0;
            for (int i = 0; i < takenCount; i++) {
                if ((leftBy(chart.transitions[taken[i]]) & left) == 0) {
                    taken[kept] = taken[i];
                    kept++;
                }
            }
            taken[kept] = transition;
            takenCount = kept + 1;
        }

        /** The set of STATES that a TRANSITION LEAVES. */
        private int leftBy(Transition each) {
            return each.to == NONE ? 0 : chart.states[each.scope].beneath & situation.active;
        }

        private void makeRecords(int left) {
            for (int s = 0; s < chart.stateCount; s++) {
                State mark = chart.states[s];
                if (mark.isMark() && has(left, mark.parent)) {
                    State parent = chart.states[mark.parent];
                    int kept = mark.kind == HISTORY ? parent.parts : parent.beneath & chart.leaves;
                    situation.records[s] = kept & situation.active;
                }
            }
        }

        private void leave(int left) {
            for (int s = chart.stateCount - 1; s >= 0; s--) {
                if (has(left, s)) {
                    situation.active &= ~setOf(s);
                    situation.ages[s] = NONE;
                    act(chart.states[s].leaving);
                }
            }
        }

        void enter(int entered) {
            for (int s = 0; s < chart.stateCount; s++) {
                if (has(entered, s)) {
                    situation.active |= setOf(s);
                    situation.ages[s] = 0;
                    act(chart.states[s].entering);
                }
            }
        }

        /** The set of STATES INTO which a TRANSITION to a STATE goes. */
        private int targetsOf(Transition each) {
            if (!chart.states[each.to].isMark()) {
                return setOf(each.to);
            }
            if (situation.records[each.to] != 0) {
                return situation.records[each.to];
            }
            int parent = chart.states[each.to].parent;
            // going INTO FIRST of the SCOPE, which is PLAIN, is the same as to FILL it
            return parent == each.scope ? chart.states[parent].filledWith : setOf(parent);
        }

        private void act(Action action) {
            switch (action.code) {
                case SET:
                    situation.variables[action.what] = action.n;
                    break;
                case ADD:
                    situation.add(action.what, action.n);
                    break;
                case RAISE:
                    raise(action.what);
                    break;
                default:
                    break;
            }
        }
    }

    /**
     * The search for a ROW. Only the first 60 SITUATIONS found can ever be looked at, so no other
     * one is kept: one that was found behind these and is found again changes nothing.
     */
    private static final class Look {
        final int[] row = new int[MOST_CALLS];
        int rowLength;
        int lookedAt;
        private final Play trial;
        private final Situation[] found = new Situation[MOST_LOOKED];
        /** From which place each SITUATION came, by which call, and how many calls led to it. */
        private final int[] origin = new int[MOST_LOOKED];
        private final int[] byCall = new int[MOST_LOOKED];
        private final int[] calls = new int[MOST_LOOKED];
        private int foundCount;

        Look(Play trial) {
            this.trial = trial;
            for (int place = 0; place < found.length; place++) {
                found[place] = new Situation();
            }
        }

        /** Looks for a STATE that is ACTIVE or, if that is -1, for a TRANSITION that FIRES. */
        int search(Situation now, int state, int transition, int most) {
            rowLength = 0;
            lookedAt = 0;
            if (state != NONE && has(now.active, state)) {
                return 0;
            }
            found[0].copyFrom(now);
            origin[0] = NONE;
            calls[0] = 0;
            foundCount = 1;
            for (int place = 0; place < foundCount && place < MOST_LOOKED; place++) {
                if (calls[place] >= most) {
                    return NONE;
                }
                lookedAt++;
                for (int call = 0; call <= TICK; call++) {
                    trial.situation.copyFrom(found[place]);
                    trial.proceed(call);
                    if (isReached(state, transition)) {
                        writeRow(place, call);
                        return rowLength;
                    }
                    keepIfNew(place, call);
                }
            }
            return NONE;
        }

        /** Whether the call tried just now comes to the STATE or FIRED the TRANSITION. */
        private boolean isReached(int state, int transition) {
            return transition == NONE
                    ? has(trial.situation.active, state)
                    : has(trial.firedLast, transition);
        }

        private void keepIfNew(int place, int call) {
            if (foundCount >= found.length) {
                return;
            }
            for (int i = 0; i < foundCount; i++) {
                if (found[i].isSameAs(trial.situation)) {
                    return;
                }
            }
            found[foundCount].copyFrom(trial.situation);
            origin[foundCount] = place;
            byCall[foundCount] = call;
            calls[foundCount] = calls[place] + 1;
            foundCount++;
        }

        private void writeRow(int place, int call) {
            rowLength = calls[place] + 1;
            row[rowLength - 1] = call;
            int from = place;
            for (int i = rowLength - 2; i >= 0; i--) {
                row[i] = byCall[from];
                from = origin[from];
            }
        }
    }
}
