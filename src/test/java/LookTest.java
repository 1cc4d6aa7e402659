import java.util.Arrays;

/** Promises 27 to 35: what would be, rows of events, and the checksum. */
public final class LookTest {
    private static final Class<IllegalStateException> STATE = IllegalStateException.class;
    private static final Class<IndexOutOfBoundsException> INDEX = IndexOutOfBoundsException.class;
    private static final Class<IllegalArgumentException> ARGUMENT = IllegalArgumentException.class;

    private static final Check check = new Check();

    public static void main(String[] args) {
        would();
        wouldWrongly();
        open();
        rowTo();
        rowToByTicks();
        rowToWrongly();
        mostCalls();
        sixtySituations();
        sixtiethSituation();
        sameSituations();
        oldAges();
        agesTellApart();
        recordsTellApart();
        variablesTellApart();
        rowFor();
        rowForInALaterStep();
        rowForFoundBefore();
        rowForWrongly();
        rowAt();
        over();
        meanAge();
        digest();
        digestOfNew();
        check.end();
    }

    private static void dueRow(PuppetTheatre x, int... calls) {
        for (int place = 0; place < 9; place++) {
            int want = place < calls.length ? calls[place] : -1;
            check.due("rowAt(" + place + ")", x.rowAt(place), want);
        }
    }

    private static void would() {
        PuppetTheatre x = Check.chart(0, 0, 0, 0, 1, 3, 0, 2);
        x.addTransition(1, 0, 0, 2);
        x.setAction(0, 1, 0, 5);
        x.addTransition(2, 3, 0, -1);
        x.setGuard(1, 2, 0, 5);
        x.setAction(1, 1, 0, 6);
        x.addTransition(1, 0, 1, 4);
        x.start();
        x.tick(2);
        long before = x.digest();
        check.due("wouldFire(0)", x.wouldFire(0), 2);
        check.due("wouldFire(9)", x.wouldFire(9), 0);
        check.due("wouldBe(0)", x.wouldBe(0), 0b101);
        check.due("wouldBe(9)", x.wouldBe(9), 0b11);
        check.due("wouldBe(1)", x.wouldBe(1), 0b10001);
        check.due("nothing is changed", x.digest(), before);
        check.due("send(0)", x.send(0), 2);
        check.due("wouldFire(0)", x.wouldFire(0), 0);
        x.stop();
        x.start();
        x.send(1);
        check.due("OVER: wouldFire(0)", x.wouldFire(0), 0);
        check.due("OVER: wouldBe(0)", x.wouldBe(0), 0b10001);
    }

    private static void wouldWrongly() {
        PuppetTheatre x = Check.chart(0, 0);
        check.dueThrow(x, "wouldFire(99)", STATE, () -> x.wouldFire(99));
        check.dueThrow(x, "wouldBe(99)", STATE, () -> x.wouldBe(99));
        check.dueThrow(x, "open()", STATE, () -> x.open());
        x.start();
        check.dueThrow(x, "wouldFire(-1)", ARGUMENT, () -> x.wouldFire(-1));
        check.dueThrow(x, "wouldFire(10)", ARGUMENT, () -> x.wouldFire(10));
        check.dueThrow(x, "wouldBe(-1)", ARGUMENT, () -> x.wouldBe(-1));
        check.dueThrow(x, "wouldBe(10)", ARGUMENT, () -> x.wouldBe(10));
    }

    private static void open() {
        PuppetTheatre x = Check.chart(0, 0, 0, 0, 0, 2);
        x.addTransition(1, 0, 0, 2);
        x.addTransition(0, 0, 9, -1);
        x.addTransition(2, 0, 3, 1);
        x.addTransition(1, 0, 4, 1);
        x.setGuard(3, 3, 0, 0);
        x.addTransition(1, 1, 5, 2);
        x.addTransition(1, 2, 6, 2);
        x.addTransition(2, 0, 7, 3);
        x.addTransition(0, 0, 8, -1);
        x.setGuard(7, 2, 0, 0);
        x.start();
        check.due("open()", x.open(), 1 | 1 << 9 | 1 << 8);
        x.send(0);
        check.due("open()", x.open(), 1 << 3 | 1 << 7 | 1 << 9 | 1 << 8);
        x.send(7);
        check.due("isOver()", x.isOver(), true);
        check.due("also if it is OVER", x.open(), 1 << 9 | 1 << 8);
        PuppetTheatre y = Check.chart(0, 0);
        y.addTransition(1, 1, 1, -1);
        y.addTransition(0, 3, 0, -1);
        y.start();
        y.tick(1);
        check.due("EVENTS alone", y.open(), 0);
    }

    private static void rowTo() {
        PuppetTheatre x = Check.chart(0, 0, 0, 0, 0, 0, 0, 0);
        x.addTransition(1, 0, 3, 2);
        x.addTransition(2, 0, 5, 3);
        x.addTransition(1, 0, 7, 3);
        x.addTransition(3, 0, 2, 4);
        x.addTransition(3, 0, 1, 4);
        check.due("looked() ahead of the first one", x.looked(), 0);
        x.start();
        long before = x.active();
        check.due("rowTo(1, 8)", x.rowTo(1, 8), 0);
        check.due("looked()", x.looked(), 0);
        dueRow(x);
        check.due("rowTo(3, 8)", x.rowTo(3, 8), 1);
        check.due("looked()", x.looked(), 1);
        dueRow(x, 7);
        // looked at: this one, by 3, by 7
        check.due("rowTo(4, 8)", x.rowTo(4, 8), 2);
        check.due("looked()", x.looked(), 3);
        dueRow(x, 7, 1);
        check.due("nothing is changed", x.active(), before);
        check.due("rowTo(0, 1)", x.rowTo(0, 1), 0);
        check.due("looked()", x.looked(), 0);
        dueRow(x);
    }

    private static void rowToByTicks() {
        PuppetTheatre x = Check.chart(0, 0, 0, 0);
        x.addTransition(1, 1, 5, 2);
        x.start();
        check.due("rowTo(2, 4)", x.rowTo(2, 4), -1);
        check.due("looked()", x.looked(), 4);
        dueRow(x);
        check.due("rowTo(2, 5)", x.rowTo(2, 5), 5);
        check.due("looked()", x.looked(), 5);
        dueRow(x, 10, 10, 10, 10, 10);
        x.tick(3);
        check.due("from what is now", x.rowTo(2, 5), 2);
        dueRow(x, 10, 10);
        check.due("clock()", x.clock(), 3);
        check.due("ageOf(1)", x.ageOf(1), 3);
    }

    private static void rowToWrongly() {
        PuppetTheatre x = Check.chart(0, 0, 0, 4);
        x.addTransition(1, 0, 3, -1);
        check.dueThrow(x, "rowTo(9, 9)", STATE, () -> x.rowTo(9, 9));
        x.start();
        x.rowFor(0, 8);
        check.dueThrow(x, "rowTo(3, 9)", INDEX, () -> x.rowTo(3, 9));
        check.dueThrow(x, "rowTo(-1, 1)", INDEX, () -> x.rowTo(-1, 1));
        check.dueThrow(x, "rowTo(0, 0)", ARGUMENT, () -> x.rowTo(0, 0));
        check.dueThrow(x, "rowTo(0, 9)", ARGUMENT, () -> x.rowTo(0, 9));
        dueRow(x, 3);
        check.due("looked()", x.looked(), 1);
        check.due("a MARK is never ACTIVE", x.rowTo(2, 3), -1);
        check.due("looked()", x.looked(), 3);
        dueRow(x);
    }

    /** None to which most calls led is looked at. */
    private static void mostCalls() {
        PuppetTheatre x = Check.chart(0, 0, 0, 0, 0, 0);
        x.addTransition(1, 0, 0, 2);
        x.addTransition(2, 0, 0, 3);
        x.start();
        check.due("rowTo(3, 1)", x.rowTo(3, 1), -1);
        check.due("looked()", x.looked(), 1);
        check.due("rowTo(3, 2)", x.rowTo(3, 2), 2);
        check.due("looked()", x.looked(), 2);
    }

    private static void sixtySituations() {
        PuppetTheatre x = Check.chart(0, 0, 0, 0);
        for (int e = 0; e < 10; e++) {
            x.addTransition(0, 0, e, -1);
            x.setAction(e, 2, e % 4, 1 + e / 4);
        }
        x.start();
        check.due("rowTo(2, 8)", x.rowTo(2, 8), -1);
        check.due("looked()", x.looked(), 60);
    }

    /** The 60th SITUATION that is found is looked at, the 61st one is not. */
    private static void sixtiethSituation() {
        int[][] found = tuplesInOrder();
        for (int place = 58; place <= 61; place++) {
            int[] goal = found[place];
            PuppetTheatre x = Check.chart(0, 0, 0, 0);
            for (int e = 0; e < SETS.length; e++) {
                x.addTransition(0, 0, e, -1);
                x.setAction(e, 1, SETS[e][0], SETS[e][1]);
            }
            // event 9 leads to 2 only if no TRANSITION with a smaller number stands in its way
            for (int v = 0; v < 4; v++) {
                x.setGuard(x.addTransition(1, 0, 9, -1), 1, v, goal[v]);
                x.setGuard(x.addTransition(1, 0, 9, -1), 3, v, goal[v]);
            }
            x.addTransition(1, 0, 9, 2);
            x.start();
            x.tick(50);
            check.due("rowTo of place " + place, x.rowTo(2, 8), place < 60 ? goal[4] + 1 : -1);
            check.due("looked()", x.looked(), Math.min(60, place + 1));
        }
    }

    /** Which variable an event sets, and to what. */
    private static final int[][] SETS =
        {{0, 1}, {0, 2}, {0, 3}, {0, 4}, {1, 1}, {1, 2}, {2, 1}, {2, 2}, {3, 1}};

    /** All 90 values of the variables in the order in which they are found, each with its calls. */
    private static int[][] tuplesInOrder() {
        int[][] found = new int[90][];
        found[0] = new int[5];
        int count = 1;
        for (int place = 0; place < count; place++) {
            for (int[] set : SETS) {
                int[] next = found[place].clone();
                next[set[0]] = set[1];
                next[4]++;
                boolean isNew = true;
                for (int i = 0; i < count; i++) {
                    isNew &= !Arrays.equals(found[i], 0, 4, next, 0, 4);
                }
                if (isNew) {
                    found[count] = next;
                    count++;
                }
            }
        }
        return found;
    }

    /** What was found before is not looked at again; the clock and what FIRED do not count. */
    private static void sameSituations() {
        PuppetTheatre x = Check.chart(0, 0, 0, 0, 0, 0);
        x.addTransition(1, 0, 0, 2);
        x.addTransition(2, 0, 0, 1);
        x.addTransition(0, 0, 1, -1);
        x.addTransition(1, 1, 1, 1);
        x.addTransition(2, 1, 1, 2);
        x.start();
        // the AGE of the ROOT counts ticks, so three calls tell 1 or 2 at 0, 1 and 2 ticks
        check.due("rowTo(3, 3)", x.rowTo(3, 3), -1);
        check.due("looked()", x.looked(), 5);
        check.due("rowTo(3, 1)", x.rowTo(3, 1), -1);
        check.due("looked()", x.looked(), 1);
    }

    /** AGES of 50 and more are the same: ticks come to nothing new. */
    private static void oldAges() {
        PuppetTheatre x = Check.chart(0, 0, 0, 0);
        x.start();
        x.tick(48);
        check.due("rowTo(2, 8)", x.rowTo(2, 8), -1);
        check.due("AGES 48, 49, 50", x.looked(), 3);
        x.tick(2);
        check.due("rowTo(2, 8)", x.rowTo(2, 8), -1);
        check.due("AGE 50", x.looked(), 1);
        x.tick(50);
        check.due("rowTo(2, 8)", x.rowTo(2, 8), -1);
        check.due("AGE 100", x.looked(), 1);
    }

    private static void agesTellApart() {
        PuppetTheatre x = Check.chart(0, 0, 0, 0);
        x.addTransition(1, 0, 4, 1);
        x.start();
        x.tick(49);
        x.tick(1);
        // AGE of 1 begins anew by 4, that of the ROOT is old
        check.due("rowTo(2, 3)", x.rowTo(2, 3), -1);
        check.due("AGES 50, 0, 1", x.looked(), 3);
    }

    /** Behind 2, 0, 1 all is as it is now but the RECORD, and only from there the goal is come to. */
    private static void recordsTellApart() {
        PuppetTheatre x = Check.chart(0, 0, 1, 0, 1, 0, 1, 3, 0, 0, 0, 0);
        x.addTransition(2, 0, 0, 3);
        x.setAction(0, 1, 0, 1);
        x.addTransition(1, 0, 1, 5);
        x.setAction(1, 1, 0, 0);
        x.addTransition(5, 0, 2, 4);
        x.addTransition(3, 0, 4, 6);
        x.setGuard(3, 2, 0, 0);
        x.start();
        x.send(1);
        check.due("rowTo(6, 4)", x.rowTo(6, 4), -1);
        check.due("rowTo(6, 5)", x.rowTo(6, 5), 5);
        dueRow(x, 2, 0, 1, 2, 4);
        check.due("record(4)", x.record(4), 1 << 2);
    }

    private static void variablesTellApart() {
        PuppetTheatre x = Check.chart(0, 0, 0, 0);
        x.addTransition(1, 0, 0, -1);
        x.setAction(0, 2, 3, 1);
        x.addTransition(1, 0, 6, 2);
        x.setGuard(1, 3, 3, 2);
        x.start();
        check.due("rowTo(2, 3)", x.rowTo(2, 3), -1);
        check.due("rowTo(2, 4)", x.rowTo(2, 4), 4);
        dueRow(x, 0, 0, 0, 6);
        check.due("variable(3)", x.variable(3), 0);
    }

    private static void rowFor() {
        PuppetTheatre x = Check.chart(0, 0, 0, 0);
        x.addTransition(1, 0, 8, 2);
        x.addTransition(2, 1, 2, 1);
        x.addTransition(2, 0, 3, -1);
        x.start();
        check.due("rowFor(0, 1)", x.rowFor(0, 1), 1);
        check.due("looked()", x.looked(), 1);
        dueRow(x, 8);
        check.due("rowFor(1, 8)", x.rowFor(1, 8), 3);
        dueRow(x, 8, 10, 10);
        check.due("rowFor(2, 8)", x.rowFor(2, 8), 2);
        dueRow(x, 8, 3);
        check.due("rowFor(2, 1)", x.rowFor(2, 1), -1);
        dueRow(x);
        check.due("fired(0)", x.fired(0), 0);
        x.send(8);
        check.due("it FIRED already, but the last call is to FIRE it", x.rowFor(0, 8), 3);
        dueRow(x, 10, 10, 8);
    }

    /** It FIRES in any STEP of the last call, ahead of others or behind them. */
    private static void rowForInALaterStep() {
        PuppetTheatre x = Check.chart(0, 0, 0, 0, 0, 0);
        x.addTransition(1, 0, 4, 2);
        x.addTransition(2, 3, 0, 3);
        x.addTransition(3, 3, 0, 1);
        x.start();
        for (int t = 0; t < 3; t++) {
            check.due("rowFor(" + t + ", 8)", x.rowFor(t, 8), 1);
            dueRow(x, 4);
        }
        check.due("2 is not ACTIVE behind a call", x.rowTo(2, 8), -1);
    }

    /** The call FIRES it, though nothing new comes of it. */
    private static void rowForFoundBefore() {
        PuppetTheatre x = Check.chart();
        x.addTransition(0, 0, 6, -1);
        x.addTransition(0, 0, 6, -1);
        x.start();
        check.due("rowFor(0, 1)", x.rowFor(0, 1), 1);
        dueRow(x, 6);
        check.due("looked()", x.looked(), 1);
        check.due("never CHOSEN", x.rowFor(1, 3), -1);
        check.due("looked()", x.looked(), 3);
    }

    private static void rowForWrongly() {
        PuppetTheatre x = Check.chart(0, 0);
        x.addTransition(1, 0, 0, -1);
        check.dueThrow(x, "rowFor(9, 9)", STATE, () -> x.rowFor(9, 9));
        x.start();
        check.dueThrow(x, "rowFor(1, 9)", INDEX, () -> x.rowFor(1, 9));
        check.dueThrow(x, "rowFor(-1, 1)", INDEX, () -> x.rowFor(-1, 1));
        check.dueThrow(x, "rowFor(0, 0)", ARGUMENT, () -> x.rowFor(0, 0));
        check.dueThrow(x, "rowFor(0, 9)", ARGUMENT, () -> x.rowFor(0, 9));
    }

    private static void rowAt() {
        PuppetTheatre x = Check.chart(0, 0, 0, 0);
        x.addTransition(1, 1, 8, 2);
        check.due("ahead of a look", x.rowAt(0), -1);
        x.start();
        check.due("rowTo(2, 8)", x.rowTo(2, 8), 8);
        dueRow(x, 10, 10, 10, 10, 10, 10, 10, 10);
        int[] none = {-1, 8, Integer.MAX_VALUE, Integer.MIN_VALUE};
        for (int place : none) {
            check.due("rowAt(" + place + ")", x.rowAt(place), -1);
        }
        x.tick(1);
        x.stop();
        check.due("kept till the next look", x.rowAt(7), 10);
        x.start();
        check.due("kept till the next look", x.rowAt(7), 10);
        check.due("looked() is kept", x.looked(), 8);
        check.due("rowTo(2, 1)", x.rowTo(2, 1), -1);
        dueRow(x);
    }

    private static void over() {
        PuppetTheatre x = Check.chart(0, 2, 0, 0);
        x.addTransition(0, 0, 0, -1);
        x.start();
        check.due("rowTo(1, 8)", x.rowTo(1, 8), 0);
        check.due("rowTo(2, 8)", x.rowTo(2, 8), -1);
        check.due("looked()", x.looked(), 1);
        check.due("rowFor(0, 8)", x.rowFor(0, 8), -1);
        check.due("looked()", x.looked(), 1);
    }

    private static void meanAge() {
        PuppetTheatre x = Check.chart(0, 0, 1, 0, 1, 0);
        x.addTransition(2, 0, 0, 3);
        check.due("without any", x.meanAge(), 0.0);
        x.start();
        check.due("at once", x.meanAge(), 0.0);
        x.tick(50);
        x.tick(50);
        check.due("not cut to 50", x.meanAge(), 100.0);
        x.send(0);
        check.due("100, 100, 0", x.meanAge(), 200.0 / 3);
        x.tick(1);
        check.due("101, 101, 1", x.meanAge(), 203.0 / 3);
        x.stop();
        check.due("without any", x.meanAge(), 0.0);
    }

    /** By the document's words, from the answers of the other calls. */
    private static long digestOf(PuppetTheatre x) {
        long[] first = {x.states(), x.transitions(), x.isRunning() ? 1 : 0, x.active(), x.isOver() ? 1 : 0,
            x.clock(), x.covered(), x.lost(), x.restless(), x.looked()};
        long d = 58059;
        for (long n : first) {
            d = d * 31 + n;
        }
        for (int s = 0; s < x.states(); s++) {
            for (int what = 0; what < 4; what++) {
                d = d * 31 + x.ofState(s, what);
            }
            d = d * 31 + (x.isEnded(s) ? 1 : 0);
            d = d * 31 + x.ageOf(s);
            if (x.ofState(s, 0) >= 3) {
                d = d * 31 + x.record(s);
            }
        }
        for (int v = 0; v < 4; v++) {
            d = d * 31 + x.variable(v);
        }
        for (int t = 0; t < x.transitions(); t++) {
            d = d * 31 + x.fired(t);
        }
        for (int place = 0; place < 8; place++) {
            d = d * 31 + x.rowAt(place);
        }
        return d;
    }

    private static void digest() {
        PuppetTheatre x = Check.chart(0, 0, 1, 0, 1, 2, 1, 3, 0, 1, 5, 4, 0, 2);
        x.addTransition(2, 0, 0, 3);
        x.addTransition(1, 0, 1, 5);
        x.addTransition(5, 0, 2, 4);
        x.addTransition(5, 0, 3, 7);
        x.setAction(3, 3, 1, 0);
        x.setDoing(5, false, 2, 2, -5);
        check.due("as it stands", x.digest(), digestOf(x));
        x.start();
        check.due("STARTED", x.digest(), digestOf(x));
        int[] events = {0, 1, 2, 1, 9, 3};
        for (int event : events) {
            x.tick(3);
            x.rowTo(7, 5);
            check.due("ahead of " + event, x.digest(), digestOf(x));
            x.send(event);
            check.due("behind " + event, x.digest(), digestOf(x));
        }
        check.due("isOver()", x.isOver(), true);
        x.stop();
        check.due("stopped", x.digest(), digestOf(x));
    }

    private static void digestOfNew() {
        PuppetTheatre x = new PuppetTheatre();
        int[] numbers = {1, 0, 0, 0, 0, 0, 0, 0, 0, 0, 0, -1, -1, 0, 0, -1, 0, 0, 0, 0,
            -1, -1, -1, -1, -1, -1, -1, -1};
        long d = 58059;
        for (int n : numbers) {
            d = d * 31 + n;
        }
        check.due("of a new one", x.digest(), d);
    }
}
