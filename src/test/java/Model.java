import java.util.ArrayDeque;
import java.util.ArrayList;
import java.util.Arrays;
import java.util.HashSet;
import java.util.List;
import java.util.Map;
import java.util.Set;
import java.util.TreeMap;
import java.util.TreeSet;

/**
 * The document told a second time, word by word and without any care for speed, by recursion over
 * sets of numbers: what RandomTest holds the class against.
 */
final class Model {
    static final class StateOf {
        int kind;
        int parent = -1;
        Integer firstSet;
        int[] entering = new int[3];
        int[] leaving = new int[3];
    }

    static final class TransitionOf {
        int from;
        int trigger;
        int n;
        int to;
        int[] guard = new int[3];
        int[] action = new int[3];
    }

    /** What changes while it RUNS. */
    static final class Now {
        TreeMap<Integer, Integer> enteredAt = new TreeMap<>();
        TreeMap<Integer, Set<Integer>> records = new TreeMap<>();
        int[] variables = new int[4];
        ArrayDeque<Integer> queue = new ArrayDeque<>();
        int clock;
        int[] fired = new int[30];
        int lost;
        int restless;

        Now copy() {
            Now c = new Now();
            c.enteredAt.putAll(enteredAt);
            c.records.putAll(records);
            c.variables = variables.clone();
            c.queue.addAll(queue);
            c.clock = clock;
            c.fired = fired.clone();
            c.lost = lost;
            c.restless = restless;
            return c;
        }

        String situation() {
            StringBuilder b = new StringBuilder();
            for (Map.Entry<Integer, Integer> e : enteredAt.entrySet()) {
                b.append(e.getKey()).append(':').append(Math.min(50, clock - e.getValue())).append(' ');
            }
            for (Map.Entry<Integer, Set<Integer>> e : records.entrySet()) {
                if (!e.getValue().isEmpty()) {
                    b.append(e.getKey()).append('=').append(new TreeSet<>(e.getValue())).append(' ');
                }
            }
            return b.append(Arrays.toString(variables)).toString();
        }
    }

    final List<StateOf> states = new ArrayList<>();
    final List<TransitionOf> transitions = new ArrayList<>();
    Now now = new Now();
    boolean runs;
    List<Integer> row = new ArrayList<>();
    int looked;

    Model() {
        states.add(new StateOf());
    }

    // ---- the terms

    boolean isMark(int s) {
        return states.get(s).kind >= 3;
    }

    boolean isBeneath(int s, int above) {
        int parent = states.get(s).parent;
        return parent != -1 && (parent == above || isBeneath(parent, above));
    }

    TreeSet<Integer> beneath(int s) {
        TreeSet<Integer> set = new TreeSet<>();
        for (int k = 0; k < states.size(); k++) {
            if (isBeneath(k, s)) {
                set.add(k);
            }
        }
        return set;
    }

    TreeSet<Integer> parts(int s) {
        TreeSet<Integer> set = new TreeSet<>();
        for (int k = 0; k < states.size(); k++) {
            if (states.get(k).parent == s && !isMark(k)) {
                set.add(k);
            }
        }
        return set;
    }

    boolean isLeaf(int s) {
        return !isMark(s) && parts(s).isEmpty();
    }

    int first(int s) {
        if (states.get(s).kind != 0 || parts(s).isEmpty()) {
            return -1;
        }
        Integer set = states.get(s).firstSet;
        return set != null ? set : parts(s).first();
    }

    void fill(int s, Set<Integer> entered) {
        entered.add(s);
        if (states.get(s).kind == 0 && !parts(s).isEmpty()) {
            fill(first(s), entered);
        } else if (states.get(s).kind == 1) {
            for (int part : parts(s)) {
                fill(part, entered);
            }
        }
    }

    void goInto(Set<Integer> some, int scope, Set<Integer> entered) {
        for (int s : beneath(scope)) {
            if (!holdsAny(s, some)) {
                continue;
            }
            entered.add(s);
            if (states.get(s).kind == 1) {
                for (int part : parts(s)) {
                    if (!some.contains(part) && !holdsAny(part, some)) {
                        fill(part, entered);
                    }
                }
            }
        }
        for (int s : some) {
            fill(s, entered);
        }
    }

    boolean holdsAny(int s, Set<Integer> some) {
        for (int k : some) {
            if (isBeneath(k, s)) {
                return true;
            }
        }
        return false;
    }

    void goInto(int to, int scope, Set<Integer> entered) {
        if (!isMark(to)) {
            goInto(Set.of(to), scope, entered);
            return;
        }
        Set<Integer> record = now.records.get(to);
        int parent = states.get(to).parent;
        if (record != null && !record.isEmpty()) {
            goInto(record, scope, entered);
        } else if (parent != scope) {
            goInto(Set.of(parent), scope, entered);
        } else if (first(parent) != -1) {
            fill(first(parent), entered);
        }
    }

    int scope(TransitionOf t) {
        int best = -1;
        for (int s = 0; s < states.size(); s++) {
            if (states.get(s).kind == 0 && isBeneath(t.from, s) && isBeneath(t.to, s)) {
                if (best == -1 || isBeneath(s, best)) {
                    best = s;
                }
            }
        }
        return best;
    }

    TreeSet<Integer> leaves(TransitionOf t) {
        TreeSet<Integer> set = new TreeSet<>();
        if (t.to != -1) {
            set.addAll(beneath(scope(t)));
            set.retainAll(now.enteredAt.keySet());
        }
        return set;
    }

    boolean isActive(int s) {
        return now.enteredAt.containsKey(s);
    }

    int age(int s) {
        return isActive(s) ? now.clock - now.enteredAt.get(s) : -1;
    }

    boolean isEnded(int s) {
        int kind = states.get(s).kind;
        if (kind == 0) {
            return parts(s).stream().anyMatch(p -> states.get(p).kind == 2 && isActive(p));
        }
        return kind == 1 && !parts(s).isEmpty() && parts(s).stream().allMatch(this::isEnded);
    }

    boolean isOver() {
        return isEnded(0);
    }

    boolean holds(int[] guard) {
        switch (guard[0]) {
            case 1: return now.variables[guard[1]] < guard[2];
            case 2: return now.variables[guard[1]] == guard[2];
            case 3: return now.variables[guard[1]] > guard[2];
            default: return true;
        }
    }

    boolean isOpen(TransitionOf t, Set<Integer> triggers, int event) {
        if (!isActive(t.from) || !triggers.contains(t.trigger) || !holds(t.guard)) {
            return false;
        }
        switch (t.trigger) {
            case 0: return t.n == event;
            case 1: return age(t.from) == t.n;
            case 2: return isEnded(t.from);
            default: return true;
        }
    }

    void act(int[] action) {
        switch (action[0]) {
            case 1:
                now.variables[action[1]] = action[2];
                break;
            case 2:
                int sum = now.variables[action[1]] + action[2];
                now.variables[action[1]] = sum > 99 ? 99 : sum < -99 ? -99 : sum;
                break;
            case 3:
                if (now.queue.size() == 8) {
                    now.lost++;
                } else {
                    now.queue.addLast(action[1]);
                }
                break;
            default:
                break;
        }
    }

    void enterAll(Set<Integer> entered) {
        for (int s : new TreeSet<>(entered)) {
            now.enteredAt.put(s, now.clock);
            act(states.get(s).entering);
        }
    }

    int chosenFor(int leaf, Set<Integer> triggers, int event) {
        for (int s = leaf; s != -1; s = states.get(s).parent) {
            for (int t = 0; t < transitions.size(); t++) {
                if (transitions.get(t).from == s && isOpen(transitions.get(t), triggers, event)) {
                    return t;
                }
            }
        }
        return -1;
    }

    int step(Set<Integer> triggers, int event) {
        List<Integer> chosen = new ArrayList<>();
        for (int s = 0; s < states.size(); s++) {
            if (isLeaf(s) && isActive(s)) {
                int t = chosenFor(s, triggers, event);
                if (t != -1 && !chosen.contains(t)) {
                    chosen.add(t);
                }
            }
        }
        List<Integer> taken = new ArrayList<>();
        for (int t : chosen) {
            List<Integer> rivals = new ArrayList<>();
            for (int other : taken) {
                TreeSet<Integer> both = leaves(transitions.get(other));
                both.retainAll(leaves(transitions.get(t)));
                if (!both.isEmpty()) {
                    rivals.add(other);
                }
            }
            int from = transitions.get(t).from;
            if (rivals.stream().allMatch(o -> isBeneath(from, transitions.get(o).from))) {
                taken.removeAll(rivals);
                taken.add(t);
            }
        }
        TreeSet<Integer> left = new TreeSet<>();
        for (int t : taken) {
            left.addAll(leaves(transitions.get(t)));
        }
        for (int s = 0; s < states.size(); s++) {
            if (isMark(s) && left.contains(states.get(s).parent)) {
                int parent = states.get(s).parent;
                TreeSet<Integer> record = states.get(s).kind == 3 ? parts(parent) : beneath(parent);
                if (states.get(s).kind == 4) {
                    record.removeIf(k -> !isLeaf(k));
                }
                record.retainAll(now.enteredAt.keySet());
                now.records.put(s, record);
            }
        }
        for (int s : left.descendingSet()) {
            now.enteredAt.remove(s);
            act(states.get(s).leaving);
        }
        for (int t : taken) {
            act(transitions.get(t).action);
        }
        TreeSet<Integer> entered = new TreeSet<>();
        for (int t : taken) {
            if (transitions.get(t).to != -1) {
                goInto(transitions.get(t).to, scope(transitions.get(t)), entered);
            }
        }
        enterAll(entered);
        for (int t : taken) {
            now.fired[t]++;
        }
        return taken.size();
    }

    void loseQueue() {
        now.lost += now.queue.size();
        now.queue.clear();
    }

    /** SETTLES behind a first STEP that FIRED so many. */
    int settle(int fired) {
        int steps = fired > 0 ? 1 : 0;
        int count = fired;
        while (!isOver()) {
            if (steps == 12) {
                loseQueue();
                now.restless++;
                return count;
            }
            int more = step(Set.of(2, 3), -1);
            if (more == 0) {
                if (now.queue.isEmpty()) {
                    return count;
                }
                more = step(Set.of(0), now.queue.removeFirst());
            }
            steps += more > 0 ? 1 : 0;
            count += more;
        }
        loseQueue();
        return count;
    }

    int doSend(int event) {
        return isOver() ? 0 : settle(step(Set.of(0), event));
    }

    int doTick() {
        if (isOver()) {
            return 0;
        }
        now.clock++;
        return settle(step(Set.of(1), -1));
    }

    // ---- the face

    void mustRest() {
        if (runs) {
            throw new IllegalStateException();
        }
    }

    void mustRun() {
        if (!runs) {
            throw new IllegalStateException();
        }
    }

    void mustBeIn(int k, int count) {
        if (k < 0 || k >= count) {
            throw new IndexOutOfBoundsException();
        }
    }

    void must(boolean holds) {
        if (!holds) {
            throw new IllegalArgumentException();
        }
    }

    void mustBeAction(int code, int what, int n) {
        must(code >= 0 && code <= 3);
        must(code == 0 || what >= 0 && what <= (code == 3 ? 9 : 3));
        must(code == 0 || code == 3 || n >= -99 && n <= 99);
    }

    int addState(int parent, int kind) {
        mustRest();
        if (states.size() == 20) {
            throw new IllegalStateException();
        }
        mustBeIn(parent, states.size());
        must(kind >= 0 && kind <= 4 && states.get(parent).kind <= 1);
        must(!(kind == 2 && states.get(parent).kind == 1));
        StateOf s = new StateOf();
        s.kind = kind;
        s.parent = parent;
        states.add(s);
        return states.size() - 1;
    }

    int setFirst(int state, int part) {
        mustRest();
        mustBeIn(state, states.size());
        mustBeIn(part, states.size());
        must(states.get(state).kind == 0 && parts(state).contains(part));
        int before = first(state);
        states.get(state).firstSet = part;
        return before;
    }

    int setDoing(int state, boolean isLeaving, int code, int what, int n) {
        mustRest();
        mustBeIn(state, states.size());
        must(!isMark(state));
        mustBeAction(code, what, n);
        int[] action = isLeaving ? states.get(state).leaving : states.get(state).entering;
        return put(action, code, what, n);
    }

    int put(int[] three, int code, int what, int n) {
        int before = three[0];
        three[0] = code;
        three[1] = what;
        three[2] = n;
        return before;
    }

    int addTransition(int from, int trigger, int n, int to) {
        mustRest();
        if (transitions.size() == 30) {
            throw new IllegalStateException();
        }
        mustBeIn(from, states.size());
        mustBeIn(to + 1, states.size() + 1);
        must(states.get(from).kind <= 1 && trigger >= 0 && trigger <= 3);
        must(trigger != 0 || n >= 0 && n <= 9);
        must(trigger != 1 || n >= 1 && n <= 50);
        must(to != 0 && (from != 0 || to == -1));
        TransitionOf t = new TransitionOf();
        t.from = from;
        t.trigger = trigger;
        t.n = n;
        t.to = to;
        transitions.add(t);
        return transitions.size() - 1;
    }

    int setGuard(int transition, int how, int variable, int n) {
        mustRest();
        mustBeIn(transition, transitions.size());
        must(how >= 0 && how <= 3);
        must(how == 0 || variable >= 0 && variable <= 3 && n >= -99 && n <= 99);
        return put(transitions.get(transition).guard, how, variable, n);
    }

    int setAction(int transition, int code, int what, int n) {
        mustRest();
        mustBeIn(transition, transitions.size());
        mustBeAction(code, what, n);
        return put(transitions.get(transition).action, code, what, n);
    }

    int start() {
        mustRest();
        runs = true;
        now = new Now();
        TreeSet<Integer> entered = new TreeSet<>();
        fill(0, entered);
        enterAll(entered);
        return settle(0);
    }

    int stop() {
        mustRun();
        runs = false;
        int count = now.enteredAt.size();
        now.enteredAt.clear();
        return count;
    }

    int send(int event) {
        mustRun();
        must(event >= 0 && event <= 9);
        return doSend(event);
    }

    int tick(int ticks) {
        mustRun();
        must(ticks >= 1 && ticks <= 50);
        int count = 0;
        for (int i = 0; i < ticks; i++) {
            count += doTick();
        }
        return count;
    }

    int ofState(int state, int what) {
        mustBeIn(state, states.size());
        must(what >= 0 && what <= 3);
        int[] all = {states.get(state).kind, states.get(state).parent, first(state), parts(state).size()};
        return all[what];
    }

    int setOf(Set<Integer> set) {
        int sum = 0;
        for (int k : set) {
            sum += 1 << k;
        }
        return sum;
    }

    int active() {
        return setOf(now.enteredAt.keySet());
    }

    int endedOf(int state) {
        mustBeIn(state, states.size());
        return isEnded(state) ? 1 : 0;
    }

    int ageOf(int state) {
        mustBeIn(state, states.size());
        return age(state);
    }

    int record(int state) {
        mustBeIn(state, states.size());
        must(isMark(state));
        return now.records.containsKey(state) ? setOf(now.records.get(state)) : 0;
    }

    int variable(int variable) {
        mustBeIn(variable, 4);
        return now.variables[variable];
    }

    int fired(int transition) {
        mustBeIn(transition, transitions.size());
        return now.fired[transition];
    }

    int covered() {
        return (int) Arrays.stream(now.fired).filter(f -> f > 0).count();
    }

    int wouldFire(int event) {
        mustRun();
        must(event >= 0 && event <= 9);
        Now kept = now;
        now = kept.copy();
        int count = doSend(event);
        now = kept;
        return count;
    }

    int wouldBe(int event) {
        mustRun();
        must(event >= 0 && event <= 9);
        Now kept = now;
        now = kept.copy();
        doSend(event);
        int set = active();
        now = kept;
        return set;
    }

    int open() {
        mustRun();
        int set = 0;
        for (int event = 0; event < 10; event++) {
            for (TransitionOf t : transitions) {
                if (isOpen(t, Set.of(0), event)) {
                    set |= 1 << event;
                }
            }
        }
        return set;
    }

    int rowTo(int state, int most) {
        mustRun();
        mustBeIn(state, states.size());
        must(most >= 1 && most <= 8);
        if (isActive(state)) {
            row = new ArrayList<>();
            looked = 0;
            return 0;
        }
        return look(state, -1, most);
    }

    int rowFor(int transition, int most) {
        mustRun();
        mustBeIn(transition, transitions.size());
        must(most >= 1 && most <= 8);
        return look(-1, transition, most);
    }

    int look(int state, int transition, int most) {
        row = new ArrayList<>();
        looked = 0;
        Now kept = now;
        Set<String> found = new HashSet<>();
        ArrayDeque<Now> later = new ArrayDeque<>();
        ArrayDeque<List<Integer>> rows = new ArrayDeque<>();
        found.add(kept.situation());
        later.add(kept.copy());
        rows.add(new ArrayList<>());
        int answer = -1;
        while (answer == -1 && !later.isEmpty() && looked < 60) {
            Now from = later.removeFirst();
            List<Integer> led = rows.removeFirst();
            if (led.size() == most) {
                continue;
            }
            looked++;
            for (int call = 0; call <= 10 && answer == -1; call++) {
                now = from.copy();
                int before = transition == -1 ? 0 : now.fired[transition];
                if (call == 10) {
                    doTick();
                } else {
                    doSend(call);
                }
                List<Integer> longer = new ArrayList<>(led);
                longer.add(call);
                if (transition == -1 ? isActive(state) : now.fired[transition] > before) {
                    row = longer;
                    answer = longer.size();
                } else if (found.add(now.situation())) {
                    later.addLast(now);
                    rows.addLast(longer);
                }
            }
        }
        now = kept;
        return answer;
    }

    int rowAt(int place) {
        return place >= 0 && place < row.size() ? row.get(place) : -1;
    }

    double meanAge() {
        return now.enteredAt.keySet().stream().mapToInt(this::age).average().orElse(0);
    }

    long digest() {
        List<Integer> all = new ArrayList<>(List.of(states.size(), transitions.size(), runs ? 1 : 0,
                active(), runs && isOver() ? 1 : 0, now.clock, covered(), now.lost, now.restless, looked));
        for (int s = 0; s < states.size(); s++) {
            for (int what = 0; what < 4; what++) {
                all.add(ofState(s, what));
            }
            all.add(endedOf(s));
            all.add(age(s));
            if (isMark(s)) {
                all.add(record(s));
            }
        }
        for (int v : now.variables) {
            all.add(v);
        }
        for (int t = 0; t < transitions.size(); t++) {
            all.add(now.fired[t]);
        }
        for (int place = 0; place < 8; place++) {
            all.add(rowAt(place));
        }
        long d = 58059;
        for (int x : all) {
            d = d * 31 + x;
        }
        return d;
    }
}
