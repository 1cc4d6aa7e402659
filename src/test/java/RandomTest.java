import java.util.Random;

/** Random charts and random calls, right and wrong ones: the class against the model. */
public final class RandomTest {
    /** A call of either of the two. */
    interface Call {
        long make();
    }

    private static final int RUNS = 1000;
    private static final int CALLS = 130;

    private final Random random;
    private final PuppetTheatre x = new PuppetTheatre();
    private final Model m = new Model();
    private final StringBuilder told = new StringBuilder();
    private final int events;
    private final int numbers;
    private boolean isWrong;

    private RandomTest(long seed) {
        random = new Random(seed);
        events = 1 + random.nextInt(10);
        numbers = 1 + random.nextInt(5);
    }

    public static void main(String[] args) {
        int runs = args.length > 0 ? Integer.parseInt(args[0]) : RUNS;
        int offset = args.length > 1 ? Integer.parseInt(args[1]) : 0;
        for (int run = offset; run < offset + runs; run++) {
            RandomTest test = new RandomTest(run);
            test.play();
            if (test.isWrong) {
                System.out.println("random run " + run + ":\n" + test.told);
                System.exit(1);
            }
        }
        System.out.println("all answers are as due");
    }

    private void play() {
        build();
        for (int i = 0; i < CALLS && !isWrong; i++) {
            if (random.nextInt(40) == 0) {
                wrongCall();
            } else if (m.runs) {
                run();
            } else if (random.nextInt(3) == 0) {
                change();
            } else {
                both("start()", x::start, m::start);
            }
            askAll();
        }
    }

    private void build() {
        int states = 1 + random.nextInt(19);
        for (int i = 0; i < states; i++) {
            addState();
        }
        int transitions = random.nextInt(30);
        for (int i = 0; i < transitions; i++) {
            addTransition();
        }
        int settings = random.nextInt(60);
        for (int i = 0; i < settings; i++) {
            setSomething();
        }
    }

    private void change() {
        switch (random.nextInt(4)) {
            case 0: addState(); break;
            case 1: addTransition(); break;
            default: setSomething(); break;
        }
    }

    private int below(int bound) {
        return random.nextInt(Math.max(1, bound));
    }

    private int number() {
        return random.nextInt(12) == 0 ? random.nextInt(199) - 99 : random.nextInt(2 * numbers + 1) - numbers;
    }

    private void addState() {
        int parent = below(random.nextInt(3) == 0 ? m.states.size() : Math.min(m.states.size(), 6));
        int[] kinds = {0, 0, 0, 0, 1, 1, 2, 3, 4};
        int kind = kinds[random.nextInt(kinds.length)];
        both("addState(" + parent + ", " + kind + ")",
                () -> x.addState(parent, kind), () -> m.addState(parent, kind));
    }

    private void addTransition() {
        int from = below(m.states.size());
        int[] triggers = {0, 0, 0, 0, 0, 1, 1, 2, 3};
        int trigger = triggers[random.nextInt(triggers.length)];
        int n = trigger == 1 ? 1 + random.nextInt(random.nextInt(5) == 0 ? 50 : 4) : random.nextInt(events);
        int to = random.nextInt(6) == 0 ? -1 : below(m.states.size());
        both("addTransition(" + from + ", " + trigger + ", " + n + ", " + to + ")",
                () -> x.addTransition(from, trigger, n, to), () -> m.addTransition(from, trigger, n, to));
    }

    private void setSomething() {
        int state = below(m.states.size());
        int part = below(m.states.size());
        int transition = below(m.transitions.size());
        int code = random.nextInt(4);
        int what = code == 3 ? random.nextInt(events) : random.nextInt(Math.min(4, numbers));
        int n = number();
        boolean isLeaving = random.nextBoolean();
        switch (random.nextInt(5)) {
            case 0:
                both("setFirst(" + state + ", " + part + ")",
                        () -> x.setFirst(state, part), () -> m.setFirst(state, part));
                break;
            case 1:
                both("setDoing(" + state + ", " + isLeaving + ", " + code + ", " + what + ", " + n + ")",
                        () -> x.setDoing(state, isLeaving, code, what, n),
                        () -> m.setDoing(state, isLeaving, code, what, n));
                break;
            case 2:
                int variable = random.nextInt(Math.min(4, numbers));
                both("setGuard(" + transition + ", " + code + ", " + variable + ", " + n + ")",
                        () -> x.setGuard(transition, code, variable, n),
                        () -> m.setGuard(transition, code, variable, n));
                break;
            default:
                both("setAction(" + transition + ", " + code + ", " + what + ", " + n + ")",
                        () -> x.setAction(transition, code, what, n),
                        () -> m.setAction(transition, code, what, n));
                break;
        }
    }

    private void run() {
        int event = random.nextInt(events);
        int most = 1 + random.nextInt(8);
        int ticks = 1 + random.nextInt(random.nextInt(4) == 0 ? 50 : 3);
        int state = below(m.states.size());
        int transition = below(m.transitions.size());
        switch (random.nextInt(24)) {
            case 0:
                both("stop()", x::stop, m::stop);
                break;
            case 1: case 2: case 3: case 4: case 5: case 6: case 7:
                both("tick(" + ticks + ")", () -> x.tick(ticks), () -> m.tick(ticks));
                break;
            case 8:
                both("rowTo(" + state + ", " + most + ")",
                        () -> x.rowTo(state, most), () -> m.rowTo(state, most));
                break;
            case 9:
                both("rowFor(" + transition + ", " + most + ")",
                        () -> x.rowFor(transition, most), () -> m.rowFor(transition, most));
                break;
            default:
                both("send(" + event + ")", () -> x.send(event), () -> m.send(event));
                break;
        }
    }

    private int odd() {
        int[] odd = {Integer.MIN_VALUE, -100, -99, -2, -1, 0, 1, 2, 3, 4, 5, 8, 9, 10, 19, 20, 29, 30,
            31, 32, 50, 51, 99, 100, Integer.MAX_VALUE};
        return odd[random.nextInt(odd.length)];
    }

    private void wrongCall() {
        int a = odd();
        int b = odd();
        int c = odd();
        int d = odd();
        boolean is = random.nextBoolean();
        String args = "(" + a + ", " + b + ", " + c + ", " + d + ", " + is + ")";
        switch (random.nextInt(16)) {
            case 0: both("addState" + args, () -> x.addState(a, b), () -> m.addState(a, b)); break;
            case 1: both("setFirst" + args, () -> x.setFirst(a, b), () -> m.setFirst(a, b)); break;
            case 2: both("setDoing" + args, () -> x.setDoing(a, is, b, c, d), () -> m.setDoing(a, is, b, c, d)); break;
            case 3: both("addTransition" + args, () -> x.addTransition(a, b, c, d), () -> m.addTransition(a, b, c, d)); break;
            case 4: both("setGuard" + args, () -> x.setGuard(a, b, c, d), () -> m.setGuard(a, b, c, d)); break;
            case 5: both("setAction" + args, () -> x.setAction(a, b, c, d), () -> m.setAction(a, b, c, d)); break;
            case 6: both("send" + args, () -> x.send(a), () -> m.send(a)); break;
            case 7: both("tick" + args, () -> x.tick(a), () -> m.tick(a)); break;
            case 8: both("ofState" + args, () -> x.ofState(a, b), () -> m.ofState(a, b)); break;
            case 9: both("isEnded" + args, () -> x.isEnded(a) ? 1 : 0, () -> m.endedOf(a)); break;
            case 10: both("ageOf" + args, () -> x.ageOf(a), () -> m.ageOf(a)); break;
            case 11: both("record" + args, () -> x.record(a), () -> m.record(a)); break;
            case 12: both("fired" + args, () -> x.fired(a), () -> m.fired(a)); break;
            case 13: both("rowTo" + args, () -> x.rowTo(a, b), () -> m.rowTo(a, b)); break;
            case 14: both("rowFor" + args, () -> x.rowFor(a, b), () -> m.rowFor(a, b)); break;
            default: both("wouldBe" + args, () -> x.wouldBe(a), () -> m.wouldBe(a)); break;
        }
    }

    private void askAll() {
        both("active()", x::active, m::active);
        both("clock()", x::clock, () -> m.now.clock);
        both("lost()", x::lost, () -> m.now.lost);
        both("restless()", x::restless, () -> m.now.restless);
        both("digest()", x::digest, m::digest);
        both("meanAge()", () -> Double.doubleToLongBits(x.meanAge()), () -> Double.doubleToLongBits(m.meanAge()));
        int event = random.nextInt(10);
        both("open()", x::open, m::open);
        both("wouldFire(" + event + ")", () -> x.wouldFire(event), () -> m.wouldFire(event));
        both("wouldBe(" + event + ")", () -> x.wouldBe(event), () -> m.wouldBe(event));
    }

    private void both(String what, Call call, Call model) {
        if (isWrong) {
            return;
        }
        String got = answerOf(call);
        String want = answerOf(model);
        told.append(what).append(" answered ").append(got).append('\n');
        if (!got.equals(want)) {
            told.append("due is ").append(want).append('\n');
            isWrong = true;
        }
    }

    private static String answerOf(Call call) {
        try {
            return Long.toString(call.make());
        } catch (RuntimeException e) {
            return e.getClass().getName();
        }
    }
}
