/** Promise 1: a new object. */
public final class NewObjectTest {
    public static void main(String[] args) {
        Check check = new Check();
        PuppetTheatre x = new PuppetTheatre();
        check.due("states()", x.states(), 1);
        check.due("transitions()", x.transitions(), 0);
        check.due("isRunning()", x.isRunning(), false);
        check.due("ofState(0, 0)", x.ofState(0, 0), 0);
        check.due("ofState(0, 1)", x.ofState(0, 1), -1);
        check.due("ofState(0, 2)", x.ofState(0, 2), -1);
        check.due("ofState(0, 3)", x.ofState(0, 3), 0);
        check.due("active()", x.active(), 0);
        check.due("isOver()", x.isOver(), false);
        check.due("isEnded(0)", x.isEnded(0), false);
        check.due("ageOf(0)", x.ageOf(0), -1);
        for (int v = 0; v < 4; v++) {
            check.due("variable(" + v + ")", x.variable(v), 0);
        }
        check.due("clock()", x.clock(), 0);
        check.due("covered()", x.covered(), 0);
        check.due("lost()", x.lost(), 0);
        check.due("restless()", x.restless(), 0);
        check.due("rowAt(0)", x.rowAt(0), -1);
        check.due("looked()", x.looked(), 0);
        check.due("meanAge()", x.meanAge(), 0.0);
        check.end();
    }
}
