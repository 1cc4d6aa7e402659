import java.util.Arrays;

/** Promises 27 to 35: what would be, rows of events, and the checksum. What is refused stands in RefusalTest. */
public final class LookTest {
    private static final Check check = new Check();

    public static void main(String[] args) {
        wouldFire();
        wouldBe();
        wouldAsSend();
        open();
        openOfAll();
        rowTo();
        rowToActive();
        rowToOrder();
        rowToByTicks();
        rowToMark();
        mostCalls();
        sixtySituations();
        sixtiethSituation();
        rowForOfSixtieth();
        sameSituations();
        nothingElseCounts();
        oldAges();
        agesTellApart();
        recordsTellApart();
        variablesTellApart();
        nothingIsChanged();
        rowFor();
        rowForInALaterStep();
        rowForFoundBefore();
        rowForOfGone();
        rowAt();
        rowIsKept();
        looked();
        over();
        meanAge();
        digest();
        digestOfNew();
        check.end();
    }

    private static int set(int... members) {
        return Check.set(members);
    }

    private static void wouldFire() {
        // Promise 27: "Returns how many TRANSITIONS send() would FIRE."
        PuppetTheatre x = Check.chart(0, 0, 0, 0, 0, 2);
        x.addTransition(1, 0, 0, 2);
        x.setAction(0, 1, 0, 5);
        x.addTransition(2, 3, 0, -1);
        x.setGuard(1, 2, 0, 5);
        x.setAction(1, 1, 0, 6);
        x.addTransition(1, 0, 9, 3);
        x.addTransition(1, 0, 8, -1);
        x.setAction(3, 3, 8, 0);
        x.start();
        check.due("wouldFire(0)", x.wouldFire(0), 2);
        check.due("wouldFire(9)", x.wouldFire(9), 1);
        check.due("wouldFire(5)", x.wouldFire(5), 0);
        check.due("wouldFire(8), twelve STEPS", x.wouldFire(8), 12);
        check.due("once more", x.wouldFire(8), 12);
        check.due("active()", x.active(), set(0, 1));
        check.due("fired(0)", x.fired(0), 0);
        check.due("restless()", x.restless(), 0);
        x.send(0);
        check.due("it FIRED already", x.wouldFire(0), 0);
        x.stop();
        x.start();
        x.send(9);
        for (int event = 0; event <= 9; event++) {
            check.due("OVER: wouldFire(" + event + ")", x.wouldFire(event), 0);
        }
    }

    private static void wouldBe() {
        // Promise 28: "Returns the set of STATES that would be ACTIVE behind send()."
        PuppetTheatre x = Check.chart(0, 0, 0, 0, 1, 3, 0, 2);
        x.addTransition(1, 0, 0, 2);
        x.addTransition(1, 0, 9, 4);
        x.addTransition(2, 0, 1, 3);
        x.start();
        check.due("wouldBe(0)", x.wouldBe(0), set(0, 2));
        check.due("wouldBe(9)", x.wouldBe(9), set(0, 4));
        check.due("wouldBe(5)", x.wouldBe(5), set(0, 1));
        check.due("active()", x.active(), set(0, 1));
        check.due("record(3)", x.record(3), 0);
        x.send(9);
        check.due("OVER: wouldBe(0)", x.wouldBe(0), set(0, 4));
    }

    private static void wouldAsSend() {
        // Promise 27: "Returns how many TRANSITIONS send() would FIRE."
        // Promise 28: "Returns the set of STATES that would be ACTIVE behind send()."
        // 0 { 1 BROAD { 2 { 3, 4 }, 5 { 6, 7 } }, 8 { 9, 10 DEEP } }, round and round
        for (int event = 0; event <= 9; event++) {
            PuppetTheatre x = Check.chart(0, 1, 1, 0, 2, 0, 2, 0, 1, 0, 5, 0, 5, 0, 0, 0, 8, 0, 1, 4);
            int[][] ways = {{3, 4}, {4, 3}, {6, 7}, {7, 6}, {1, 8}, {8, 10}, {2, 2}, {9, 9}, {0, -1}};
            for (int i = 0; i < ways.length; i++) {
                int t = x.addTransition(ways[i][0], 0, i, ways[i][1]);
                x.setAction(t, 3, (i + 3) % 10, 0);
                x.setGuard(t, 1, 0, 4);
                x.setDoing(ways[i][0], false, 2, 0, i % 2);
            }
            x.start();
            for (int i = 0; i < 10; i++) {
                long before = x.digest();
                int fires = x.wouldFire(event);
                int set = x.wouldBe(event);
                check.due("nothing is changed", x.digest(), before);
                check.due("send(" + event + ")", x.send(event), fires);
                check.due("active()", x.active(), set);
                x.tick(1);
                x.send((event + i) % 10);
            }
        }
    }

    private static void open() {
        // Promise 29: "Returns the set of events for which a TRANSITION is OPEN (also if it is OVER)."
        PuppetTheatre x = Check.chart(0, 0, 0, 0, 0, 2);
        x.addTransition(1, 0, 0, 2);
        x.addTransition(0, 0, 9, -1);
        x.addTransition(2, 0, 3, 1);
        x.addTransition(1, 0, 4, 1);
        x.setGuard(3, 3, 0, 0);
        x.addTransition(1, 1, 5, 2);
        x.addTransition(1, 2, 6, 2);
        x.addTransition(2, 0, 7, 3);
        x.addTransition(0, 0, 8, -1);
        x.setGuard(7, 2, 0, 0);
        x.start();
        check.due("open()", x.open(), set(0, 8, 9));
        x.send(0);
        check.due("open()", x.open(), set(3, 7, 8, 9));
        x.send(7);
        check.due("isOver()", x.isOver(), true);
        check.due("also if it is OVER", x.open(), set(8, 9));
        PuppetTheatre y = Check.chart(0, 0, 1, 2);
        y.addTransition(1, 1, 1, -1);
        y.addTransition(1, 2, 2, -1);
        y.addTransition(0, 3, 0, -1);
        y.start();
        y.tick(1);
        check.due("EVENTS alone", y.open(), 0);
    }

    private static void openOfAll() {
        // Promise 29: "Returns the set of events for which a TRANSITION is OPEN"
        PuppetTheatre x = Check.chart(0, 0);
        x.start();
        check.due("without any", x.open(), 0);
        for (int event = 0; event <= 9; event++) {
            x.stop();
            x.addTransition(event % 2, 0, event, -1);
            x.start();
            check.due("0 to " + event, x.open(), (2 << event) - 1);
        }
        x.stop();
        // one that would not be CHOSEN is OPEN all the same
        x.addTransition(1, 0, 0, -1);
        x.setGuard(0, 1, 0, -99);
        x.setGuard(10, 2, 0, 0);
        x.start();
        check.due("by another one", x.open(), 1023);
    }

    private static void rowTo() {
        // Promise 30: "Looks for a shortest ROW of calls, each send() of an event or tick() of 1 (which is told as 10), from what is now, behind which a STATE is ACTIVE"
        // Promise 30: "Returns how many calls it has (0, if it is ACTIVE now); -1 if none is found."
        PuppetTheatre x = Check.chart(0, 0, 0, 0, 0, 0, 0, 0, 0, 0);
        x.addTransition(1, 0, 3, 2);
        x.addTransition(2, 0, 5, 3);
        x.addTransition(1, 0, 7, 3);
        x.addTransition(3, 0, 2, 4);
        x.addTransition(3, 0, 1, 4);
        x.start();
        check.due("rowTo(3, 8)", x.rowTo(3, 8), 1);
        check.due("looked()", x.looked(), 1);
        check.dueRow(x, 7);
        // looked at: this one, by 3, by 7
        check.due("rowTo(4, 8)", x.rowTo(4, 8), 2);
        check.due("looked()", x.looked(), 3);
        check.dueRow(x, 7, 1);
        check.due("rowTo(5, 2)", x.rowTo(5, 2), -1);
        check.dueRow(x);
        check.due("from what is now", x.active(), set(0, 1));
        x.send(7);
        check.due("rowTo(4, 8)", x.rowTo(4, 8), 1);
        check.dueRow(x, 1);
        check.due("rowTo(1, 8): there is no way back", x.rowTo(1, 3), -1);
    }

    private static void rowToActive() {
        // Promise 30: "(0, if it is ACTIVE now)"
        // Promise 33: "0 ahead of the first one, and if the STATE was ACTIVE at once"
        PuppetTheatre x = Check.chart(0, 0, 0, 0);
        x.addTransition(1, 0, 4, 2);
        check.due("looked() ahead of the first one", x.looked(), 0);
        x.start();
        check.due("looked() ahead of the first one", x.looked(), 0);
        for (int s = 0; s < 2; s++) {
            for (int most = 1; most <= 8; most += 7) {
                check.due("rowTo(2, 1)", x.rowTo(2, 1), 1);
                check.dueRow(x, 4);
                check.due("looked()", x.looked(), 1);
                check.due("rowTo(" + s + ", " + most + ")", x.rowTo(s, most), 0);
                check.due("looked()", x.looked(), 0);
                check.dueRow(x);
            }
        }
    }

    private static void rowToOrder() {
        // Promise 30: "from each all calls are tried, 0 to 10, what comes of them is looked at later"
        // Promise 30: "SITUATIONS are looked at one by one"
        for (int low = 0; low <= 10; low++) {
            for (int high = low; high <= 10; high++) {
                PuppetTheatre x = Check.chart(0, 0, 0, 0, 0, 0);
                int[] calls = {high, low};
                for (int call : calls) {
                    x.addTransition(1, call == 10 ? 1 : 0, call == 10 ? 1 : call, 2);
                    x.addTransition(2, call == 10 ? 1 : 0, call == 10 ? 1 : call, 3);
                }
                x.start();
                check.due("rowTo(2, 1)", x.rowTo(2, 1), 1);
                check.dueRow(x, low);
                check.due("rowTo(3, 8)", x.rowTo(3, 8), 2);
                check.dueRow(x, low, low);
            }
        }
        // what is found first is looked at first: 2 by 1, 3 by 0, and both lead to 4
        PuppetTheatre y = Check.chart(0, 0, 0, 0, 0, 0, 0, 0);
        y.addTransition(1, 0, 1, 2);
        y.addTransition(1, 0, 0, 3);
        y.addTransition(2, 0, 2, 4);
        y.addTransition(3, 0, 8, 4);
        y.start();
        check.due("rowTo(4, 8)", y.rowTo(4, 8), 2);
        check.dueRow(y, 0, 8);
        check.due("looked()", y.looked(), 2);
    }

    private static void rowToByTicks() {
        // Promise 30: "how many calls at most"
        // Promise 30: "most is not 1 to 8"
        for (int ticks = 1; ticks <= 9; ticks++) {
            PuppetTheatre x = Check.chart(0, 0, 0, 0);
            x.addTransition(1, 1, ticks, 2);
            x.start();
            for (int most = 1; most <= 8; most++) {
                boolean isFound = most >= ticks;
                check.due("rowTo(2, " + most + ") of " + ticks, x.rowTo(2, most), isFound ? ticks : -1);
                check.due("looked()", x.looked(), Math.min(most, ticks));
                int[] row = new int[isFound ? ticks : 0];
                Arrays.fill(row, 10);
                check.dueRow(x, row);
            }
            check.due("clock()", x.clock(), 0);
            x.tick(1);
            check.due("from what is now", x.rowTo(2, 8), ticks - 1);
        }
    }

    private static void rowToMark() {
        // Promise 30: "till the first one is found in which the STATE is ACTIVE"
        PuppetTheatre x = Check.chart(0, 0, 0, 4, 0, 0, 0, 0);
        x.addTransition(1, 0, 3, 2);
        x.addTransition(1, 0, 4, 3);
        x.addTransition(3, 3, 0, 4);
        x.start();
        check.due("a MARK is never", x.rowTo(2, 3), -1);
        check.due("3 is not behind the call", x.rowTo(3, 3), -1);
        check.due("4 is", x.rowTo(4, 3), 1);
        check.dueRow(x, 4);
    }

    private static void mostCalls() {
        // Promise 30: "and none to which most calls led"
        PuppetTheatre x = Check.chart();
        for (int s = 1; s <= 10; s++) {
            x.addState(0, 0);
        }
        for (int s = 1; s < 10; s++) {
            x.addTransition(s, 0, s, s + 1);
            // there is nothing but 1 to 10 to be found
            x.addTransition(s, 1, 1, s);
        }
        x.start();
        x.tick(50);
        for (int most = 1; most <= 8; most++) {
            for (int goal = 2; goal <= 10; goal++) {
                boolean isFound = goal - 1 <= most;
                check.due("rowTo(" + goal + ", " + most + ")", x.rowTo(goal, most), isFound ? goal - 1 : -1);
                check.due("looked()", x.looked(), isFound ? goal - 1 : most);
            }
        }
        check.due("rowTo(9, 8)", x.rowTo(9, 8), 8);
        check.dueRow(x, 1, 2, 3, 4, 5, 6, 7, 8);
    }

    private static void sixtySituations() {
        // Promise 30: "At most 60 SITUATIONS are looked at, this one the first"
        PuppetTheatre x = Check.chart(0, 0, 0, 0);
        for (int e = 0; e < 10; e++) {
            x.addTransition(0, 0, e, -1);
            x.setAction(e, 2, e % 4, 1 + e / 4);
        }
        x.addTransition(2, 0, 0, -1);
        x.start();
        check.due("rowTo(2, 8)", x.rowTo(2, 8), -1);
        check.due("looked()", x.looked(), 60);
        check.dueRow(x);
        check.due("rowFor(10, 8)", x.rowFor(10, 8), -1);
        check.due("looked()", x.looked(), 60);
        // one call leads to eleven
        check.due("rowTo(2, 1)", x.rowTo(2, 1), -1);
        check.due("looked()", x.looked(), 1);
        check.due("rowTo(2, 2)", x.rowTo(2, 2), -1);
        check.due("looked()", x.looked(), 12);
    }

    private static void sixtiethSituation() {
        // Promise 30: "At most 60 SITUATIONS are looked at, this one the first"
        int[][] found = tuplesInOrder();
        for (int place = 0; place <= 62; place++) {
            int[] goal = found[place];
            PuppetTheatre x = chartOfTuples(goal);
            check.due("rowTo of place " + place, x.rowTo(2, 8), place < 60 ? goal[4] + 1 : -1);
            check.due("looked()", x.looked(), Math.min(60, place + 1));
            check.due("the last call", x.rowAt(goal[4]), place < 60 ? 9 : -1);
        }
    }

    private static void rowForOfSixtieth() {
        // Promise 31: "Looks likewise for a shortest ROW"
        int[][] found = tuplesInOrder();
        for (int place = 57; place <= 62; place++) {
            int[] goal = found[place];
            PuppetTheatre x = chartOfTuples(goal);
            check.due("rowFor of place " + place, x.rowFor(17, 8), place < 60 ? goal[4] + 1 : -1);
            check.due("looked()", x.looked(), Math.min(60, place + 1));
            check.due("the last call", x.rowAt(goal[4]), place < 60 ? 9 : -1);
        }
    }

    /** Event 9 leads to 2 only from these values of the variables, by the last TRANSITION, 17. */
    private static PuppetTheatre chartOfTuples(int[] goal) {
        PuppetTheatre x = Check.chart(0, 0, 0, 0);
        for (int e = 0; e < SETS.length; e++) {
            x.addTransition(0, 0, e, -1);
            x.setAction(e, 1, SETS[e][0], SETS[e][1]);
        }
        // each with a smaller number stands in the way of the last one
        for (int v = 0; v < 4; v++) {
            x.setGuard(x.addTransition(1, 0, 9, -1), 1, v, goal[v]);
            x.setGuard(x.addTransition(1, 0, 9, -1), 3, v, goal[v]);
        }
        x.addTransition(1, 0, 9, 2);
        x.start();
        x.tick(50);
        return x;
    }

    /** Which variable an event sets, and to what. */
    private static final int[][] SETS =
        {{0, 1}, {0, 2}, {0, 3}, {0, 4}, {1, 1}, {1, 2}, {2, 1}, {2, 2}, {3, 1}};

    /** All 90 values of the variables in the order in which they are found, each with its calls. */
    private static int[][] tuplesInOrder() {
        int[][] found = new int[90][];
        found[0] = new int[5];
        int count = 1;
        for (int place = 0; place < count; place++) {
            for (int[] set : SETS) {
                int[] next = found[place].clone();
                next[set[0]] = set[1];
                next[4]++;
                boolean isNew = true;
                for (int i = 0; i < count; i++) {
                    isNew &= !Arrays.equals(found[i], 0, 4, next, 0, 4);
                }
                if (isNew) {
                    found[count] = next;
                    count++;
                }
            }
        }
        return found;
    }

    private static void sameSituations() {
        // Promise 30: "if it was not found before"
        PuppetTheatre x = Check.chart(0, 0, 0, 0, 0, 0);
        x.addTransition(1, 0, 0, 2);
        x.addTransition(2, 0, 0, 1);
        x.addTransition(0, 0, 1, -1);
        x.addTransition(1, 1, 1, 1);
        x.addTransition(2, 1, 1, 2);
        x.start();
        // the AGE of the ROOT counts ticks, so three calls tell 1 or 2 at 0, 1 and 2 ticks
        check.due("rowTo(3, 3)", x.rowTo(3, 3), -1);
        check.due("looked()", x.looked(), 5);
        check.due("rowTo(3, 1)", x.rowTo(3, 1), -1);
        check.due("looked()", x.looked(), 1);
    }

    private static void nothingElseCounts() {
        // Promise 30: "Two SITUATIONS are the same, if the same STATES are ACTIVE, with the same AGES (each of 50 and more the same), RECORDS, and variables (nothing else counts)."
        // FIRED, LOST, RESTLESS and the clock alone are more behind a call
        PuppetTheatre x = Check.chart(0, 0, 0, 0);
        x.addTransition(0, 0, 0, -1);
        x.addTransition(0, 0, 1, -1);
        x.setAction(1, 3, 1, 0);
        x.start();
        x.tick(50);
        check.due("wouldFire(0)", x.wouldFire(0), 1);
        check.due("wouldFire(1), RESTLESS", x.wouldFire(1), 12);
        check.due("rowTo(2, 8)", x.rowTo(2, 8), -1);
        check.due("looked()", x.looked(), 1);
    }

    private static void oldAges() {
        // Promise 30: "with the same AGES (each of 50 and more the same)"
        PuppetTheatre x = Check.chart(0, 0, 0, 0);
        x.start();
        int ticks = 0;
        int[] behind = {41, 42, 43, 48, 49, 50, 51, 52, 99, 100};
        for (int age : behind) {
            x.tick(Math.min(50, age - ticks));
            ticks = age;
            check.due("rowTo(2, 8)", x.rowTo(2, 8), -1);
            check.due("from " + age + " to 50, eight at most", x.looked(), Math.max(1, Math.min(8, 51 - age)));
        }
    }

    private static void agesTellApart() {
        // Promise 30: "with the same AGES (each of 50 and more the same)"
        PuppetTheatre x = Check.chart(0, 0, 0, 0);
        x.addTransition(1, 0, 4, 1);
        x.start();
        x.tick(49);
        x.tick(1);
        // AGE of 1 begins anew by 4, that of the ROOT is old
        check.due("rowTo(2, 3)", x.rowTo(2, 3), -1);
        check.due("AGES 50, 0, 1", x.looked(), 3);
        // AFTER 50 comes of 49, and not of 50
        PuppetTheatre y = Check.chart(0, 0, 0, 0);
        y.addTransition(1, 1, 50, 2);
        y.setGuard(0, 2, 0, 0);
        y.addTransition(0, 0, 1, -1);
        y.setAction(1, 1, 0, 1);
        y.start();
        y.tick(49);
        check.due("rowTo(2, 8)", y.rowTo(2, 8), 1);
        check.dueRow(y, 10);
        y.send(1);
        y.tick(1);
        check.due("it is too late", y.rowTo(2, 8), -1);
        check.due("looked()", y.looked(), 1);
    }

    private static void recordsTellApart() {
        // Promise 30: "RECORDS, and variables"
        // behind 2, 0, 1 all is as it is now but the RECORD, and only from there the goal is come to
        PuppetTheatre x = Check.chart(0, 0, 1, 0, 1, 0, 1, 3, 0, 0, 0, 0);
        x.addTransition(2, 0, 0, 3);
        x.setAction(0, 1, 0, 1);
        x.addTransition(1, 0, 1, 5);
        x.setAction(1, 1, 0, 0);
        x.addTransition(5, 0, 2, 4);
        x.addTransition(3, 0, 4, 6);
        x.setGuard(3, 2, 0, 0);
        x.start();
        x.send(1);
        check.due("rowTo(6, 4)", x.rowTo(6, 4), -1);
        check.due("rowTo(6, 5)", x.rowTo(6, 5), 5);
        check.dueRow(x, 2, 0, 1, 2, 4);
        check.due("record(4)", x.record(4), set(2));
    }

    private static void variablesTellApart() {
        // Promise 30: "RECORDS, and variables"
        for (int v = 0; v < 4; v++) {
            PuppetTheatre x = Check.chart(0, 0, 0, 0);
            x.addTransition(1, 0, 0, -1);
            x.setAction(0, 2, v, 1);
            x.addTransition(1, 0, 6, 2);
            x.setGuard(1, 3, v, 2);
            x.start();
            check.due("rowTo(2, 3)", x.rowTo(2, 3), -1);
            check.due("rowTo(2, 4)", x.rowTo(2, 4), 4);
            check.dueRow(x, 0, 0, 0, 6);
            check.due("variable(" + v + ")", x.variable(v), 0);
        }
    }

    private static void nothingIsChanged() {
        // Terms: "what would be, and rows of events (nothing is changed)"
        PuppetTheatre x = ofAllKinds();
        PuppetTheatre y = ofAllKinds();
        // x makes many looks and then the one that y makes
        int[] events = {0, 7, 2, 9, 1};
        for (int event : events) {
            for (int s = 0; s < 6; s++) {
                x.rowTo(s, 1 + s);
                x.wouldBe(s);
                x.wouldFire(s);
            }
            for (int t = 0; t < 5; t++) {
                x.rowFor(t, 8 - t);
            }
            x.open();
            x.rowFor(2, 5);
            y.rowFor(2, 5);
            check.due("digest() ahead of " + event, x.digest(), y.digest());
            check.due("meanAge()", x.meanAge(), y.meanAge());
            check.due("send(" + event + ")", x.send(event), y.send(event));
            check.due("tick(1)", x.tick(1), y.tick(1));
        }
    }

    private static PuppetTheatre ofAllKinds() {
        PuppetTheatre x = Check.chart(0, 0, 0, 0, 1, 3, 0, 0, 0, 2);
        x.addTransition(1, 0, 0, 2);
        x.addTransition(2, 1, 3, 1);
        x.addTransition(2, 0, 1, 4);
        x.addTransition(0, 0, 2, -1);
        x.addTransition(1, 0, 3, 5);
        x.setAction(0, 2, 1, 5);
        x.setAction(3, 3, 2, 0);
        x.start();
        return x;
    }

    private static void rowFor() {
        // Promise 31: "Looks likewise for a shortest ROW whose last call FIRES a TRANSITION"
        // Promise 31: "Returns how many calls it has; -1 if none is found."
        PuppetTheatre x = Check.chart(0, 0, 0, 0);
        x.addTransition(1, 0, 8, 2);
        x.addTransition(2, 1, 2, 1);
        x.addTransition(2, 0, 3, -1);
        x.start();
        check.due("rowFor(0, 1)", x.rowFor(0, 1), 1);
        check.due("looked()", x.looked(), 1);
        check.dueRow(x, 8);
        check.due("rowFor(1, 8)", x.rowFor(1, 8), 3);
        check.dueRow(x, 8, 10, 10);
        check.due("rowFor(2, 8)", x.rowFor(2, 8), 2);
        check.dueRow(x, 8, 3);
        check.due("rowFor(2, 1)", x.rowFor(2, 1), -1);
        check.dueRow(x);
        check.due("fired(0)", x.fired(0), 0);
        x.send(8);
        check.due("it FIRED already, but the last call is to FIRE it", x.rowFor(0, 8), 3);
        check.dueRow(x, 10, 10, 8);
        // Promise 31: "most is not 1 to 8"
        for (int ticks = 1; ticks <= 9; ticks++) {
            PuppetTheatre y = Check.chart(0, 0);
            y.addTransition(1, 1, ticks, -1);
            y.start();
            for (int most = 1; most <= 8; most++) {
                check.due("rowFor(0, " + most + ")", y.rowFor(0, most), most >= ticks ? ticks : -1);
                check.due("looked()", y.looked(), Math.min(most, ticks));
            }
        }
    }

    private static void rowForInALaterStep() {
        // Promise 31: "whose last call FIRES a TRANSITION"
        // in any STEP of it, ahead of others or behind them
        PuppetTheatre x = Check.chart(0, 0, 0, 0, 0, 0);
        x.addTransition(1, 0, 4, 2);
        x.addTransition(2, 3, 0, 3);
        x.addTransition(3, 3, 0, 1);
        x.start();
        for (int t = 0; t < 3; t++) {
            check.due("rowFor(" + t + ", 8)", x.rowFor(t, 8), 1);
            check.dueRow(x, 4);
        }
        check.due("2 is not ACTIVE behind a call", x.rowTo(2, 8), -1);
    }

    private static void rowForFoundBefore() {
        // Promise 31: "(also if what comes of it was found before)"
        PuppetTheatre x = Check.chart();
        x.addTransition(0, 0, 6, -1);
        x.addTransition(0, 0, 6, -1);
        x.start();
        check.due("rowFor(0, 1)", x.rowFor(0, 1), 1);
        check.dueRow(x, 6);
        check.due("looked()", x.looked(), 1);
        check.due("never CHOSEN", x.rowFor(1, 3), -1);
        check.due("looked()", x.looked(), 3);
        // 2 to 1 by 5 leads back to what is now
        PuppetTheatre y = Check.chart(0, 0, 0, 0);
        y.addTransition(1, 0, 0, 2);
        y.addTransition(2, 0, 5, 1);
        y.start();
        check.due("rowFor(1, 8)", y.rowFor(1, 8), 2);
        check.dueRow(y, 0, 5);
    }

    private static void rowForOfGone() {
        // Promise 31: "whose last call FIRES a TRANSITION"
        // 0 is taken, and then it is not any more, as 1 is
        PuppetTheatre x = Check.chart(0, 1, 1, 0, 1, 0, 3, 0, 3, 0, 0, 0);
        x.addTransition(1, 0, 0, 6);
        x.addTransition(4, 0, 0, 5);
        x.start();
        check.due("rowFor(1, 8)", x.rowFor(1, 8), 1);
        check.dueRow(x, 0);
        check.due("rowFor(0, 8)", x.rowFor(0, 8), 2);
        check.dueRow(x, 0, 0);
    }

    private static void rowAt() {
        // Promise 32: "a place, from 0"
        // Promise 32: "Returns the call of the ROW found last, 0 to 10; -1 if it has none there, or none was found."
        PuppetTheatre x = Check.chart(0, 0, 0, 0, 0, 0);
        x.addTransition(1, 1, 7, 2);
        x.addTransition(2, 0, 0, 3);
        check.dueRow(x);
        x.start();
        check.dueRow(x);
        check.due("rowTo(3, 8)", x.rowTo(3, 8), 8);
        check.dueRow(x, 10, 10, 10, 10, 10, 10, 10, 0);
        int[] none = {-1, -2, 8, 9, 32, Integer.MAX_VALUE, Integer.MIN_VALUE};
        for (int place : none) {
            check.due("rowAt(" + place + ")", x.rowAt(place), -1);
        }
        check.due("a shorter one", x.rowTo(2, 7), 7);
        check.dueRow(x, 10, 10, 10, 10, 10, 10, 10);
        check.due("none", x.rowTo(2, 6), -1);
        check.dueRow(x);
        x.tick(6);
        check.due("one call", x.rowTo(2, 8), 1);
        check.dueRow(x, 10);
        check.due("ACTIVE now", x.rowTo(1, 8), 0);
        check.dueRow(x);
    }

    private static void rowIsKept() {
        // Promise 30: "The ROW is kept for rowAt(), till the next look."
        PuppetTheatre x = Check.chart(0, 0, 0, 0);
        x.addTransition(1, 1, 3, 2);
        x.start();
        check.due("rowTo(2, 8)", x.rowTo(2, 8), 3);
        x.tick(1);
        x.send(0);
        x.wouldBe(0);
        x.wouldFire(0);
        x.open();
        check.dueThrow("no look", IllegalArgumentException.class, () -> x.rowTo(1, 9));
        check.dueRow(x, 10, 10, 10);
        check.due("looked()", x.looked(), 3);
        x.stop();
        check.dueRow(x, 10, 10, 10);
        check.dueThrow("no look", IllegalStateException.class, () -> x.rowTo(1, 8));
        x.addState(0, 0);
        x.start();
        check.dueRow(x, 10, 10, 10);
        check.due("looked() is kept", x.looked(), 3);
        check.due("rowFor(0, 1)", x.rowFor(0, 1), -1);
        check.dueRow(x);
        check.due("looked()", x.looked(), 1);
    }

    private static void looked() {
        // Promise 33: "Returns how many SITUATIONS the latest look looked at (tried calls from, also if it ended with one of these)"
        PuppetTheatre x = Check.chart(0, 0, 0, 0, 0, 0, 0, 0);
        x.addTransition(1, 0, 0, 2);
        x.addTransition(1, 0, 1, 3);
        x.addTransition(2, 0, 0, 4);
        x.addTransition(3, 0, 0, 4);
        for (int s = 1; s < 5; s++) {
            // a tick leads to nothing new, as no AGE is more than 0 behind it, but that of the ROOT
            x.addTransition(s, 1, 1, s);
        }
        x.start();
        x.tick(50);
        check.due("ended with the first one", x.rowTo(3, 8), 1);
        check.due("looked()", x.looked(), 1);
        check.due("ended with the second one", x.rowTo(4, 8), 2);
        check.due("looked()", x.looked(), 2);
        check.due("ended with the third one", x.rowFor(3, 8), 2);
        check.due("looked()", x.looked(), 3);
    }

    private static void over() {
        // Promise 30: "-1 if none is found"
        // as it is OVER, all calls lead to what is now
        PuppetTheatre x = Check.chart(0, 2, 0, 0);
        x.addTransition(0, 0, 0, -1);
        x.start();
        check.due("rowTo(1, 8)", x.rowTo(1, 8), 0);
        check.due("rowTo(2, 8)", x.rowTo(2, 8), -1);
        check.due("looked()", x.looked(), 1);
        check.due("rowFor(0, 8)", x.rowFor(0, 8), -1);
        check.due("looked()", x.looked(), 1);
    }

    private static void meanAge() {
        // Promise 34: "Returns the mean of the AGES of all STATES that are ACTIVE, not cut; 0 without any."
        PuppetTheatre x = Check.chart(0, 0, 1, 0, 1, 0);
        x.addTransition(2, 0, 0, 3);
        check.due("without any", x.meanAge(), 0.0);
        x.start();
        check.due("at once", x.meanAge(), 0.0);
        x.tick(50);
        x.tick(50);
        check.due("AGES are not cut to 50", x.meanAge(), 100.0);
        x.send(0);
        check.due("100, 100, 0", x.meanAge(), 200.0 / 3);
        x.tick(1);
        check.due("101, 101, 1", x.meanAge(), 203.0 / 3);
        x.stop();
        check.due("without any", x.meanAge(), 0.0);
        // the mean is not cut: 1 tick of 2 to 20 STATES, of which one was ENTERED just now
        for (int count = 2; count <= 20; count++) {
            PuppetTheatre y = new PuppetTheatre();
            while (y.states() < count) {
                y.addState(y.states() - 1, 0);
            }
            y.addTransition(count - 1, 1, 1, count - 1);
            y.start();
            y.tick(1);
            check.due("of " + count, y.meanAge(), (count - 1) / (double) count);
        }
    }

    /** By the document's words, from the answers of the other calls. */
    private static long digestOf(PuppetTheatre x) {
        long[] first = {x.states(), x.transitions(), x.isRunning() ? 1 : 0, x.active(), x.isOver() ? 1 : 0,
            x.clock(), x.covered(), x.lost(), x.restless(), x.looked()};
        long d = 58059;
        for (long n : first) {
            d = d * 31 + n;
        }
        for (int s = 0; s < x.states(); s++) {
            for (int what = 0; what < 4; what++) {
                d = d * 31 + x.ofState(s, what);
            }
            d = d * 31 + (x.isEnded(s) ? 1 : 0);
            d = d * 31 + x.ageOf(s);
            if (x.ofState(s, 0) >= 3) {
                d = d * 31 + x.record(s);
            }
        }
        for (int v = 0; v < 4; v++) {
            d = d * 31 + x.variable(v);
        }
        for (int t = 0; t < x.transitions(); t++) {
            d = d * 31 + x.fired(t);
        }
        for (int place = 0; place < 8; place++) {
            d = d * 31 + x.rowAt(place);
        }
        return d;
    }

    private static void digest() {
        // Promise 35: "states(), transitions(), isRunning(), active(), isOver(), clock(), covered(), lost(), restless(), looked()"
        // Promise 35: "for each STATE ofState() of 0 to 3, isEnded(), ageOf(), and, of a MARK, record(); each variable(); for each TRANSITION fired(); rowAt() of 0 to 7"
        // Promise 35: "Returns d."
        PuppetTheatre x = Check.chart(0, 0, 1, 0, 1, 2, 1, 3, 0, 1, 5, 4, 0, 2);
        x.addTransition(2, 0, 0, 3);
        x.addTransition(1, 0, 1, 5);
        x.addTransition(5, 0, 2, 4);
        x.addTransition(5, 0, 3, 7);
        x.setAction(3, 3, 1, 0);
        x.setDoing(5, false, 2, 2, -5);
        x.addTransition(5, 0, 4, -1);
        x.setAction(4, 3, 4, 0);
        check.due("as it stands", x.digest(), digestOf(x));
        x.start();
        check.due("STARTED", x.digest(), digestOf(x));
        int[] events = {0, 1, 2, 1, 4, 9, 3};
        for (int event : events) {
            x.tick(3);
            x.rowTo(7, 5);
            check.due("ahead of " + event, x.digest(), digestOf(x));
            x.send(event);
            check.due("behind " + event, x.digest(), digestOf(x));
        }
        check.due("isOver()", x.isOver(), true);
        check.due("restless()", x.restless(), 1);
        check.due("lost()", x.lost(), 2);
        x.stop();
        check.due("stopped", x.digest(), digestOf(x));
    }

    private static void digestOfNew() {
        // Promise 35: "Computes a checksum."
        // Promise 35: "A number d starts with 58059; for each of the following numbers x, d becomes d * 31 + x, which wraps around as a 64-bit integer (whether something is so counts 1 or 0)"
        int[] numbers = {1, 0, 0, 0, 0, 0, 0, 0, 0, 0, 0, -1, -1, 0, 0, -1, 0, 0, 0, 0,
            -1, -1, -1, -1, -1, -1, -1, -1};
        java.math.BigInteger d = java.math.BigInteger.valueOf(58059);
        for (int n : numbers) {
            d = d.multiply(java.math.BigInteger.valueOf(31)).add(java.math.BigInteger.valueOf(n));
        }
        check.due("it wraps around", d.bitLength() > 64, true);
        check.due("of a new one", new PuppetTheatre().digest(), d.longValue());
    }
}
