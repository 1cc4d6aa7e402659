/** What the tests say of an answer, and how they end. */
final class Check {
    /** A call that is to throw. */
    interface Call {
        void make();
    }

    private int wrong;

    /** A new object with the STATES of these PARENTS and kinds, one after the other. */
    static PuppetTheatre chart(int... parentsAndKinds) {
        PuppetTheatre x = new PuppetTheatre();
        for (int i = 0; i + 1 < parentsAndKinds.length; i += 2) {
            x.addState(parentsAndKinds[i], parentsAndKinds[i + 1]);
        }
        return x;
    }

    void due(String what, long got, long want) {
        if (got != want) {
            tell(what + " answered " + got + ", due is " + want);
        }
    }

    void due(String what, double got, double want) {
        if (got != want) {
            tell(what + " answered " + got + ", due is " + want);
        }
    }

    void due(String what, boolean got, boolean want) {
        if (got != want) {
            tell(what + " answered " + got + ", due is " + want);
        }
    }

    /** The call throws just this class, and digest(), which is made of all answers, stays. */
    void dueThrow(PuppetTheatre x, String what, Class<? extends RuntimeException> want, Call call) {
        long before = x.digest();
        String got = "nothing";
        try {
            call.make();
        } catch (RuntimeException e) {
            got = e.getClass().getName();
        }
        if (!got.equals(want.getName())) {
            tell(what + " threw " + got + ", due is " + want.getName());
        }
        if (x.digest() != before) {
            tell(what + " changed something");
        }
    }

    private void tell(String text) {
        wrong++;
        System.out.println(text);
    }

    void end() {
        System.out.println(wrong == 0 ? "all answers are as due" : wrong + " answers are not as due");
        if (wrong != 0) {
            System.exit(1);
        }
    }
}
