/** Promises 9 to 14: firstStart, lastEnd, precedes, why, because, slack, and the rules behind them. */
public final class ReasoningTests {
    public static void main(String[] args) {
        withoutRules();
        boundsByGivenOnes();
        boundsBySeveralMachines();
        boundsLeaveOutEarlyOnes();
        pairs();
        setBeforeTask();
        taskBeforeSet();
        firstTaskAgainstSet();
        rowOverFirstTask();
        rowsOverMachines();
        reasonsInOrder();
        contradictions();
        wrongInputs();
        Check.end();
    }

    private static void bounds(EdgeTasks x, int... due) {
        for (int t = 0; t < due.length / 2; t++) {
            Check.same("firstStart(" + t + ")", x.firstStart(t), due[2 * t]);
            Check.same("lastEnd(" + t + ")", x.lastEnd(t), due[2 * t + 1]);
            Check.same("slack(" + t + ")", x.slack(t), due[2 * t + 1] - due[2 * t] - x.task(t, 3));
        }
    }

    private static void reasons(EdgeTasks x, int a, int b, int why, int because) {
        String pair = "(" + a + ", " + b + ")";
        Check.same("precedes" + pair, x.precedes(a, b), why != EdgeTasks.NONE);
        Check.same("why" + pair, x.why(a, b), why);
        Check.same("because" + pair, x.because(a, b), because);
    }

    private static void withoutRules() {
        EdgeTasks x = new EdgeTasks();
        x.addTask(0, 3, 55, 5);
        x.addTask(0, 0, 400, 50);
        bounds(x, 3, 55, 0, 400);
        reasons(x, 0, 1, -1, -1);
        reasons(x, 1, 0, -1, -1);
        reasons(x, 0, 0, -1, -1);
        Check.same("slack(1)", x.slack(1), 350);
    }

    /** Rule 4: 0 and 1, on one machine, take 12 together. */
    private static void boundsByGivenOnes() {
        EdgeTasks x = Check.machines(2);
        x.addTask(0, 0, 100, 5);
        x.addTask(0, 0, 100, 7);
        x.addTask(1, 0, 100, 3);
        x.give(0, 2, true);
        x.give(1, 2, true);
        bounds(x, 0, 97, 0, 97, 12, 100);
        x.addTask(1, 0, 40, 6);
        x.addTask(1, 0, 40, 8);
        x.give(2, 3, true);
        x.give(2, 4, true);
        bounds(x, 0, 23, 0, 23, 12, 26, 15, 40, 15, 40);
    }

    /** Rule 4: sets of tasks of several machines do not count. */
    private static void boundsBySeveralMachines() {
        EdgeTasks x = Check.machines(3);
        x.addTask(0, 0, 100, 5);
        x.addTask(1, 0, 100, 7);
        x.addTask(2, 0, 100, 3);
        x.give(0, 2, true);
        x.give(1, 2, true);
        bounds(x, 0, 97, 0, 97, 7, 100);
    }

    /** Rule 4: {1, 2} tells more than all of {0, 1, 2}, and {4, 5} more than all of {4, 5, 6}. */
    private static void boundsLeaveOutEarlyOnes() {
        EdgeTasks x = Check.machines(3);
        x.addTask(0, 0, 200, 2);
        x.addTask(0, 20, 200, 4);
        x.addTask(0, 21, 200, 4);
        x.addTask(1, 0, 300, 10);
        x.addTask(2, 0, 80, 4);
        x.addTask(2, 0, 81, 4);
        x.addTask(2, 0, 200, 2);
        x.give(0, 3, true);
        x.give(1, 3, true);
        x.give(2, 3, true);
        Check.same("firstStart by the late ones", x.firstStart(3), 28);
        x.begin(3);
        x.addTask(1, 0, 300, 10);
        x.addTask(2, 0, 80, 4);
        x.addTask(2, 0, 81, 4);
        x.addTask(2, 0, 200, 2);
        x.give(0, 1, true);
        x.give(0, 2, true);
        x.give(0, 3, true);
        Check.same("lastEnd by the early ones", x.lastEnd(0), 73);
    }

    /** Rule 2 tells, but no set of rule 3. */
    private static void pairs() {
        EdgeTasks x = Check.machines(2);
        x.addTask(0, 0, 10, 3);
        x.addTask(0, 9, 40, 3);
        x.addTask(1, 9, 40, 3);
        reasons(x, 0, 1, 1, -1);
        reasons(x, 0, 2, -1, -1);
        bounds(x, 0, 10, 9, 40, 9, 40);
        x.setDates(1, 4, 40);
        reasons(x, 0, 1, -1, -1);
        x.setDates(1, 5, 40);
        reasons(x, 0, 1, 1, -1);
        reasons(x, 1, 0, -1, -1);
    }

    /** Rule 3: 2 comes behind 0 and 1, and then rule 2 tells so, too. */
    private static void setBeforeTask() {
        EdgeTasks x = new EdgeTasks();
        x.addTask(0, 1, 10, 4);
        x.addTask(0, 2, 10, 4);
        x.addTask(0, 0, 30, 3);
        bounds(x, 1, 10, 2, 10, 9, 30);
        reasons(x, 0, 2, 1, 3);
        reasons(x, 1, 2, 1, 3);
        reasons(x, 2, 0, -1, -1);
        reasons(x, 0, 1, -1, -1);
        Check.same("undecided", x.value(5), 1);
        x.setDates(2, 0, 30);
        x.setDates(0, 0, 11);
        x.setDates(1, 0, 11);
        reasons(x, 0, 2, -1, -1);
        bounds(x, 0, 11, 0, 11, 0, 30);
    }

    /** Rule 3: 2 comes before 0 and 1. */
    private static void taskBeforeSet() {
        EdgeTasks x = new EdgeTasks();
        x.addTask(0, 8, 20, 4);
        x.addTask(0, 8, 19, 4);
        x.addTask(0, 0, 20, 5);
        reasons(x, 2, 0, 1, 3);
        reasons(x, 2, 1, 1, 3);
        reasons(x, 0, 2, -1, -1);
        bounds(x, 8, 20, 8, 19, 0, 12);
        x.setDates(0, 7, 20);
        reasons(x, 2, 0, -1, -1);
    }

    /** The same, with the task 0 alone against the set {1, 2}. */
    private static void firstTaskAgainstSet() {
        EdgeTasks x = new EdgeTasks();
        x.addTask(0, 0, 30, 3);
        x.addTask(0, 1, 10, 4);
        x.addTask(0, 2, 10, 4);
        bounds(x, 9, 30, 1, 10, 2, 10);
        reasons(x, 1, 0, 1, 6);
        x.begin(1);
        x.addTask(0, 0, 20, 5);
        x.addTask(0, 8, 20, 4);
        x.addTask(0, 8, 19, 4);
        bounds(x, 0, 12, 8, 20, 8, 19);
        reasons(x, 0, 2, 1, 6);
    }

    /** Rule 1 over the task 0, by which the bounds change, too. */
    private static void rowOverFirstTask() {
        EdgeTasks x = Check.machines(2);
        x.addTask(1, 0, 100, 5);
        x.addTask(0, 0, 100, 7);
        x.addTask(0, 0, 100, 3);
        x.give(1, 0, true);
        x.give(0, 2, true);
        reasons(x, 1, 2, 3, -1);
        bounds(x, 7, 97, 0, 92, 12, 100);
    }

    /** Rule 1 alone tells that 0 precedes 2, and it does not make it a given precedence. */
    private static void rowsOverMachines() {
        EdgeTasks x = Check.machines(3);
        x.addTask(0, 0, 100, 5);
        x.addTask(1, 0, 100, 7);
        x.addTask(2, 0, 100, 3);
        x.give(0, 1, true);
        x.give(1, 2, true);
        reasons(x, 0, 1, 0, -1);
        reasons(x, 0, 2, 3, -1);
        reasons(x, 2, 0, -1, -1);
        bounds(x, 0, 90, 5, 97, 12, 100);
        x.give(0, 2, true);
        reasons(x, 0, 2, 0, -1);
    }

    /** Given goes before rule 2, rule 2 before a row. */
    private static void reasonsInOrder() {
        EdgeTasks x = new EdgeTasks();
        x.addTask(0, 0, 5, 5);
        x.addTask(0, 0, 50, 5);
        x.addTask(0, 0, 50, 5);
        reasons(x, 0, 1, 1, 1);
        x.give(0, 1, true);
        reasons(x, 0, 1, 0, 1);
        x.give(1, 2, true);
        reasons(x, 0, 2, 1, 1);
        x.setDates(0, 0, 50);
        reasons(x, 0, 2, 3, -1);
    }

    private static void contradictory(String what, EdgeTasks x, boolean due) {
        Check.same(what, x.value(4), due ? 1 : 0);
    }

    private static void contradictions() {
        EdgeTasks x = new EdgeTasks();
        x.addTask(0, 0, 4, 5);
        contradictory("a task that does not fit", x, true);
        x.setDates(0, 0, 5);
        contradictory("a task that just fits", x, false);
        x.addTask(0, 0, 9, 5);
        contradictory("two tasks that do not fit", x, true);
        x.setDates(1, 0, 10);
        contradictory("two tasks that just fit", x, false);
        x = new EdgeTasks();
        x.addTask(0, 0, 11, 4);
        x.addTask(0, 0, 11, 4);
        x.addTask(0, 0, 11, 4);
        contradictory("three tasks that do not fit", x, true);
        x.setDates(2, 0, 12);
        contradictory("three tasks that just fit", x, false);
        x.begin(3);
        x.addTask(0, 0, 11, 4);
        x.addTask(1, 0, 11, 4);
        x.addTask(2, 0, 11, 4);
        contradictory("three machines", x, false);
        x.give(0, 1, true);
        x.give(1, 2, true);
        contradictory("a row that does not fit", x, true);
        x.setDates(2, 0, 12);
        contradictory("a row that just fits", x, false);
    }

    private static void wrongInputs() {
        EdgeTasks x = new EdgeTasks();
        x.addTask(0, 0, 5, 5);
        x.addTask(0, 0, 50, 5);
        unknown(x);
        x.setDates(1, 0, 5);
        unknown(x);
        Check.badState(x, "firstStart in a contradiction", () -> x.firstStart(0));
        Check.badState(x, "lastEnd in a contradiction", () -> x.lastEnd(0));
        Check.badState(x, "slack in a contradiction", () -> x.slack(0));
        Check.badState(x, "precedes in a contradiction", () -> x.precedes(0, 1));
        Check.badState(x, "precedes(0, 0) in a contradiction", () -> x.precedes(0, 0));
        Check.badState(x, "why in a contradiction", () -> x.why(0, 1));
        Check.badState(x, "because in a contradiction", () -> x.because(0, 1));
        x.undo();
        bounds(x, 0, 5, 5, 50);
    }

    private static void unknown(EdgeTasks x) {
        for (int t : new int[] {-1, 2, Integer.MAX_VALUE, Integer.MIN_VALUE}) {
            Check.outOfBounds(x, "firstStart(" + t + ")", () -> x.firstStart(t));
            Check.outOfBounds(x, "lastEnd(" + t + ")", () -> x.lastEnd(t));
            Check.outOfBounds(x, "slack(" + t + ")", () -> x.slack(t));
            Check.outOfBounds(x, "precedes(0, " + t + ")", () -> x.precedes(0, t));
            Check.outOfBounds(x, "precedes(" + t + ", 0)", () -> x.precedes(t, 0));
            Check.outOfBounds(x, "why(0, " + t + ")", () -> x.why(0, t));
            Check.outOfBounds(x, "why(" + t + ", 0)", () -> x.why(t, 0));
            Check.outOfBounds(x, "because(0, " + t + ")", () -> x.because(0, t));
            Check.outOfBounds(x, "because(" + t + ", 0)", () -> x.because(t, 0));
        }
    }
}
