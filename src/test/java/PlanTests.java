/** Promises 15 to 17: makespan, inBest, drawn. */
public final class PlanTests {
    public static void main(String[] args) {
        noTasks();
        leastMakespan();
        firstRowOfSeveral();
        givenPrecedences();
        impossible();
        eightTasks();
        betterButTooLate();
        betterByOne();
        overBeforeTheLastTask();
        betterOnOneOfThreeMachines();
        inBestFirst();
        inBestInputs();
        drawn();
        drawnGoesOn();
        drawnInputs();
        Check.end();
    }

    private static void best(EdgeTasks x, int makespan, int... placesAndStarts) {
        Check.same("makespan", x.makespan(), makespan);
        for (int t = 0; t < placesAndStarts.length / 2; t++) {
            Check.same("place of " + t, x.inBest(t, 0), placesAndStarts[2 * t]);
            Check.same("start of " + t, x.inBest(t, 1), placesAndStarts[2 * t + 1]);
        }
    }

    private static void noTasks() {
        EdgeTasks x = new EdgeTasks();
        Check.same("makespan without tasks", x.makespan(), 0);
        Check.same("drawn without tasks", x.drawn(0, 50), 0);
    }

    private static void leastMakespan() {
        EdgeTasks x = new EdgeTasks();
        x.addTask(0, 5, 100, 2);
        x.addTask(0, 0, 100, 3);
        best(x, 7, 1, 5, 0, 0);
        x.setDates(1, 0, 2);
        best(x, EdgeTasks.NONE, -1, -1, -1, -1);
        x.undo();
        best(x, 7, 1, 5, 0, 0);
    }

    private static void firstRowOfSeveral() {
        EdgeTasks x = Check.machines(2);
        x.addTask(1, 9, 100, 1);
        x.addTask(0, 0, 100, 3);
        x.addTask(0, 0, 100, 3);
        best(x, 10, 0, 9, 1, 0, 2, 3);
        x.setDates(1, 2, 5);
        best(x, 10, 0, 9, 1, 2, 2, 5);
        x.setDates(2, 0, 3);
        best(x, EdgeTasks.NONE);
        x.setDates(1, 2, 7);
        best(x, 10, 0, 9, 2, 3, 1, 0);
    }

    private static void givenPrecedences() {
        EdgeTasks x = Check.machines(3);
        x.addTask(0, 0, 100, 4);
        x.addTask(1, 0, 100, 5);
        x.addTask(2, 0, 100, 6);
        best(x, 6, 0, 0, 1, 0, 2, 0);
        x.give(2, 0, true);
        best(x, 10, 2, 6, 0, 0, 1, 0);
        x.give(1, 2, true);
        best(x, 15, 2, 11, 0, 0, 1, 5);
    }

    /** A plan is possible if no task ends after its due date, and may end just at it. */
    private static void impossible() {
        EdgeTasks x = new EdgeTasks();
        x.addTask(0, 0, 9, 4);
        x.addTask(0, 1, 9, 4);
        best(x, 8, 0, 0, 1, 4);
        x.setDates(1, 1, 7);
        best(x, 9, 1, 5, 0, 1);
        x.setDates(1, 2, 7);
        best(x, EdgeTasks.NONE, -1, -1, -1, -1);
        Check.same("drawn, not possible", x.drawn(1, 50), EdgeTasks.NONE);
    }

    private static void eightTasks() {
        EdgeTasks x = new EdgeTasks();
        for (int t = 0; t < 8; t++) {
            x.addTask(0, 0, 400, 50);
        }
        best(x, 400, 0, 0, 1, 50, 2, 100, 3, 150, 4, 200, 5, 250, 6, 300, 7, 350);
        x.setDates(0, 0, 399);
        best(x, 400, 0, 0, 1, 50);
        x.setDates(0, 200, 400);
        best(x, 400, 4, 200, 0, 0, 1, 50, 2, 100, 3, 150, 5, 250);
        x.setDates(7, 0, 50);
        best(x, 400, 4, 200, 1, 50, 2, 100, 3, 150, 5, 250, 6, 300, 7, 350, 0, 0);
    }

    /** The row 1, 2, 0 would be over at 10, but with 0 behind its due date; no rule tells so. */
    private static void betterButTooLate() {
        EdgeTasks x = new EdgeTasks();
        x.addTask(0, 5, 8, 2);
        x.addTask(0, 0, 100, 4);
        x.addTask(0, 0, 100, 4);
        best(x, 11, 1, 5, 0, 0, 2, 7);
        x.setDates(0, 5, 10);
        best(x, 10, 2, 8, 0, 0, 1, 4);
        x.begin(1);
        x.addTask(0, 0, 100, 4);
        x.addTask(0, 0, 100, 4);
        x.addTask(0, 5, 8, 2);
        best(x, 11, 0, 0, 2, 7, 1, 5);
    }

    private static void betterByOne() {
        EdgeTasks x = new EdgeTasks();
        x.addTask(0, 1, 100, 4);
        x.addTask(0, 0, 100, 4);
        best(x, 8, 1, 4, 0, 0);
        x.setDates(1, 1, 100);
        best(x, 9, 0, 1, 1, 5);
    }

    /** The makespan is reached before the row is: at 400, the latest of all, and at what is better by one. */
    private static void overBeforeTheLastTask() {
        EdgeTasks x = Check.machines(2);
        for (int t = 0; t < 4; t++) {
            x.addTask(0, 200, 400, 50);
        }
        x.addTask(1, 0, 400, 50);
        best(x, 400, 0, 200, 1, 250, 2, 300, 3, 350, 4, 0);
        x.begin(2);
        x.addTask(0, 1, 100, 4);
        x.addTask(0, 0, 100, 4);
        x.addTask(1, 0, 100, 1);
        best(x, 8, 1, 4, 0, 0, 2, 0);
    }

    /** The row 0, 1, 2, 3 is over at 11; what is to come on the other machines does not hold up the better one. */
    private static void betterOnOneOfThreeMachines() {
        EdgeTasks x = Check.machines(3);
        x.addTask(0, 5, 100, 2);
        x.addTask(0, 0, 100, 4);
        x.addTask(1, 0, 100, 9);
        x.addTask(2, 0, 100, 9);
        best(x, 9, 1, 5, 0, 0, 2, 0, 3, 0);
    }

    private static void inBestFirst() {
        EdgeTasks x = new EdgeTasks();
        x.addTask(0, 5, 100, 2);
        Check.same("start, before makespan was asked for", x.inBest(0, 1), 5);
        x.setDates(0, 6, 100);
        Check.same("start then", x.inBest(0, 1), 6);
    }

    private static void inBestInputs() {
        EdgeTasks x = new EdgeTasks();
        x.addTask(0, 0, 9, 4);
        for (int round = 0; round < 2; round++) {
            Check.outOfBounds(x, "inBest(-1, 2)", () -> x.inBest(-1, 2));
            Check.outOfBounds(x, "inBest(1, 0)", () -> x.inBest(1, 0));
            Check.badArgument(x, "inBest(0, -1)", () -> x.inBest(0, -1));
            Check.badArgument(x, "inBest(0, 2)", () -> x.inBest(0, 2));
            x.setDates(0, 0, 3);
        }
    }

    /** With the seed 5, x is 1222621274 at first, so that of two tasks the second one begins. */
    private static void drawn() {
        EdgeTasks x = new EdgeTasks();
        x.addTask(0, 0, 100, 3);
        Check.same("one task", x.drawn(999999, 1), 3);
        x.setDates(0, 0, 3);
        Check.same("just at its due date", x.drawn(999999, 1), 3);
        x.setDates(0, 0, 2);
        Check.same("too late", x.drawn(999999, 1), EdgeTasks.NONE);
        x.setDates(0, 0, 100);
        x.addTask(0, 5, 100, 2);
        Check.same("second task first", x.drawn(5, 1), 10);
        x.give(0, 1, true);
        Check.same("only one row", x.drawn(5, 1), 7);
        x.undo();
        x.setDates(0, 0, 9);
        Check.same("not possible", x.drawn(5, 1), EdgeTasks.NONE);
    }

    private static long next(long x) {
        return (x * 1103515245L + 12345L) % 2147483648L;
    }

    /** Each row begins where the row before ended: two draws for each row of two tasks. */
    private static void drawnGoesOn() {
        EdgeTasks x = new EdgeTasks();
        x.addTask(0, 0, 100, 3);
        x.addTask(0, 5, 100, 2);
        for (int seed = 0; seed < 40; seed++) {
            int least = 10;
            long drawn = seed;
            for (int rows = 1; rows <= 5; rows++) {
                drawn = next(drawn);
                if (drawn / 65536 % 2 == 0) {
                    least = 7;
                }
                drawn = next(drawn);
                Check.same("drawn(" + seed + ", " + rows + ")", x.drawn(seed, rows), least);
            }
        }
    }

    private static void drawnInputs() {
        EdgeTasks x = new EdgeTasks();
        x.addTask(0, 0, 9, 4);
        Check.same("greatest", x.drawn(999999, 50), 4);
        Check.same("least", x.drawn(0, 1), 4);
        Check.badArgument(x, "seed -1", () -> x.drawn(-1, 1));
        Check.badArgument(x, "seed 1000000", () -> x.drawn(1000000, 1));
        Check.badArgument(x, "rows 0", () -> x.drawn(0, 0));
        Check.badArgument(x, "rows 51", () -> x.drawn(0, 51));
    }
}
