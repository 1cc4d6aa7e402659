/** What the tests say of an answer, and how they end. */
final class Check {
    private int wrong;

    /** A new object with the STATES of these PARENTS and kinds, one after the other. */
    static PuppetTheatre chart(int... parentsAndKinds) {
        PuppetTheatre x = new PuppetTheatre();
        for (int i = 0; i + 1 < parentsAndKinds.length; i += 2) {
            x.addState(parentsAndKinds[i], parentsAndKinds[i + 1]);
        }
        return x;
    }

    /** A set as the document tells it. */
    static int set(int... members) {
        int sum = 0;
        for (int k : members) {
            sum |= 1 << k;
        }
        return sum;
    }

    void due(String what, long got, long want) {
        if (got != want) {
            tell(what + " answered " + got + ", due is " + want);
        }
    }

    void due(String what, double got, double want) {
        if (got != want) {
            tell(what + " answered " + got + ", due is " + want);
        }
    }

    void due(String what, boolean got, boolean want) {
        if (got != want) {
            tell(what + " answered " + got + ", due is " + want);
        }
    }

    void due(String what, String got, String want) {
        if (!got.equals(want)) {
            tell(what + " answered " + got + ", due is " + want);
        }
    }

    void dueThrow(String what, Class<?> want, Runnable call) {
        String got = "nothing";
        try {
            call.run();
        } catch (RuntimeException e) {
            got = e.getClass().getName();
        }
        due(what, got, want.getName());
    }

    /** The ROW has these calls and none behind them. */
    void dueRow(PuppetTheatre x, int... calls) {
        for (int place = 0; place < 9; place++) {
            due("rowAt(" + place + ")", x.rowAt(place), place < calls.length ? calls[place] : -1);
        }
    }

    private void tell(String text) {
        wrong++;
        System.out.println(text);
    }

    void end() {
        System.out.println(wrong == 0 ? "all answers are as due" : wrong + " answers are not as due");
        if (wrong != 0) {
            System.exit(1);
        }
    }
}
