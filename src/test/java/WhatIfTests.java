/** Promises 18 to 22: dominates, leastDue, lowerBound, refutes, decided. */
public final class WhatIfTests {
    public static void main(String[] args) {
        dominatesByDates();
        dominatesBySets();
        dominatesAside();
        leastDue();
        lowerBound();
        refutes();
        decided();
        wrongInputs();
        Check.end();
    }

    private static void dominance(String what, EdgeTasks x, boolean forth, boolean back) {
        Check.same("dominates(0, 1), " + what, x.dominates(0, 1), forth);
        Check.same("dominates(1, 0), " + what, x.dominates(1, 0), back);
    }

    private static void dominatesByDates() {
        EdgeTasks x = Check.machines(2);
        x.addTask(0, 5, 50, 4);
        x.addTask(0, 5, 50, 4);
        x.addTask(0, 0, 40, 5);
        x.addTask(1, 0, 40, 4);
        dominance("alike", x, true, false);
        Check.same("itself", x.dominates(0, 0), false);
        Check.same("another duration", x.dominates(2, 0), false);
        Check.same("another machine", x.dominates(3, 0), false);
        x.setDates(1, 4, 50);
        dominance("1 earlier", x, false, true);
        x.setDates(1, 5, 49);
        dominance("1 due earlier", x, false, true);
        x.setDates(1, 4, 51);
        dominance("1 earlier and due later", x, false, false);
        x.setDates(1, 6, 51);
        dominance("1 later", x, true, false);
        x.setDates(0, 5, 1);
        dominance("in a contradiction", x, true, false);
    }

    private static void dominatesBySets() {
        EdgeTasks x = Check.machines(2);
        for (int t = 0; t < 4; t++) {
            x.addTask(t / 2, 5, 50, 4);
        }
        x.give(2, 0, true);
        dominance("more before 0", x, false, true);
        x.give(3, 1, true);
        dominance("others before 0 and 1", x, false, false);
        x.give(2, 1, true);
        dominance("more before 1", x, true, false);
        x.give(3, 0, true);
        dominance("the same before both", x, true, false);
        x = Check.machines(2);
        for (int t = 0; t < 4; t++) {
            x.addTask(t / 2, 5, 50, 4);
        }
        x.give(0, 2, true);
        dominance("more behind 0", x, true, false);
        x.give(1, 3, true);
        dominance("others behind 0 and 1", x, false, false);
        x.give(1, 2, true);
        dominance("more behind 1", x, false, true);
        x.give(0, 3, true);
        dominance("the same behind both", x, true, false);
    }

    /** What is given between the two themselves does not count among the sets. */
    private static void dominatesAside() {
        EdgeTasks x = new EdgeTasks();
        x.addTask(0, 5, 50, 4);
        x.addTask(0, 5, 50, 4);
        x.give(0, 1, true);
        dominance("0 given before 1", x, true, false);
        x.give(0, 1, false);
        x.give(1, 0, true);
        dominance("1 given before 0", x, false, false);
        x.setDates(1, 4, 50);
        dominance("1 given before 0, and earlier", x, false, true);
    }

    private static void leastDue() {
        EdgeTasks x = new EdgeTasks();
        x.addTask(0, 0, 1, 1);
        Check.same("the least of all", x.leastDue(0), 1);
        x.setDates(0, 200, 300);
        Check.same("release and duration", x.leastDue(0), 201);
        x.addTask(0, 0, 400, 50);
        x.addTask(0, 0, 400, 50);
        Check.same("among others", x.leastDue(2), 50);
        x.setDates(1, 0, 50);
        Check.same("behind another one", x.leastDue(2), 100);
        x.setDates(1, 0, 49);
        Check.same("in a contradiction of another one", x.leastDue(2), EdgeTasks.NONE);
        Check.same("which can be taken away", x.leastDue(1), 50);
        Check.same("nothing changed", x.task(1, 2), 49);
        Check.same("no state saved by it", Check.undoAll(x), 4);
        EdgeTasks y = new EdgeTasks();
        for (int t = 0; t < 8; t++) {
            y.addTask(0, 1, 400, 50);
        }
        Check.same("even 400 is too early", y.leastDue(0), EdgeTasks.NONE);
        y.setDates(3, 0, 400);
        Check.same("behind the only one that can begin", y.leastDue(0), 100);
        Check.same("that one itself", y.leastDue(3), 50);
    }

    private static void lowerBound() {
        EdgeTasks x = Check.machines(2);
        Check.same("without tasks", x.lowerBound(), 0);
        x.addTask(0, 3, 30, 4);
        Check.same("one task", x.lowerBound(), 7);
        x.addTask(0, 0, 30, 5);
        Check.same("two tasks", x.lowerBound(), 9);
        x.addTask(1, 0, 20, 8);
        x.give(1, 2, true);
        Check.same("a row over machines", x.lowerBound(), 13);
        x.setDates(2, 0, 12);
        Check.same("due too early", x.lowerBound(), EdgeTasks.NONE);
        EdgeTasks y = new EdgeTasks();
        for (int t = 0; t < 8; t++) {
            y.addTask(0, 0, 400, 50);
        }
        Check.same("greatest", y.lowerBound(), 400);
        y.setDates(0, 1, 400);
        Check.same("greatest still", y.lowerBound(), 400);
        y.setDates(0, 0, 49);
        Check.same("contradiction", y.lowerBound(), EdgeTasks.NONE);
    }

    private static void refutes() {
        EdgeTasks x = Check.machines(2);
        x.addTask(0, 0, 10, 4);
        x.addTask(0, 3, 40, 4);
        x.addTask(1, 0, 13, 5);
        Check.same("itself", x.refutes(1, 1), true);
        Check.same("0 behind 1", x.refutes(1, 0), true);
        Check.same("0 before 1", x.refutes(0, 1), false);
        Check.same("2 behind 1 just fits", x.refutes(1, 2), false);
        x.setDates(1, 5, 40);
        Check.same("2 behind 1 does not fit", x.refutes(1, 2), true);
        x.give(0, 2, true);
        Check.same("given already", x.refutes(0, 2), false);
        Check.same("against a given one", x.refutes(2, 0), true);
        Check.same("nothing given by it", x.value(2), 1);
        x.setDates(0, 0, 3);
        Check.same("in a contradiction", x.refutes(0, 1), true);
        Check.same("itself in a contradiction", x.refutes(0, 0), true);
    }

    private static void decided() {
        EdgeTasks x = Check.machines(2);
        Check.same("without tasks", x.decided(), 1.0);
        x.addTask(0, 0, 100, 4);
        x.addTask(1, 0, 100, 4);
        Check.same("without pairs", x.decided(), 1.0);
        x.addTask(0, 0, 100, 4);
        Check.same("one pair, undecided", x.decided(), 0.0);
        x.addTask(0, 0, 4, 4);
        Check.same("two of three", x.decided(), 2.0 / 3.0);
        x.give(0, 1, true);
        Check.same("pairs of two machines do not count", x.decided(), 2.0 / 3.0);
        x.give(2, 0, true);
        Check.same("all", x.decided(), 1.0);
        x.setDates(0, 0, 3);
        Check.badState(x, "decided in a contradiction", () -> x.decided());
        x.begin(1);
        x.addTask(0, 2, 3, 2);
        Check.badState(x, "decided in a contradiction without pairs", () -> x.decided());
    }

    private static void wrongInputs() {
        EdgeTasks x = new EdgeTasks();
        x.addTask(0, 0, 10, 4);
        for (int t : new int[] {-1, 1, Integer.MAX_VALUE, Integer.MIN_VALUE}) {
            Check.outOfBounds(x, "dominates(0, " + t + ")", () -> x.dominates(0, t));
            Check.outOfBounds(x, "dominates(" + t + ", 0)", () -> x.dominates(t, 0));
            Check.outOfBounds(x, "leastDue(" + t + ")", () -> x.leastDue(t));
            Check.outOfBounds(x, "refutes(0, " + t + ")", () -> x.refutes(0, t));
            Check.outOfBounds(x, "refutes(" + t + ", 0)", () -> x.refutes(t, 0));
            Check.outOfBounds(x, "refutes(" + t + ", " + t + ")", () -> x.refutes(t, t));
        }
    }
}
