/** Promises 26 and 27: undo, digest. */
public final class StateTests {
    public static void main(String[] args) {
        undoOrder();
        fourStates();
        everyChangeSaves();
        whatSavesNothing();
        undoRestoresAnswers();
        digest();
        digestInAContradiction();
        Check.end();
    }

    private static void undoOrder() {
        EdgeTasks x = new EdgeTasks();
        long empty = x.digest();
        x.addTask(0, 0, 20, 5);
        long one = x.digest();
        x.addTask(0, 0, 20, 6);
        Check.same("undo", x.undo(), 1);
        Check.same("one task", x.digest(), one);
        Check.same("undo again", x.undo(), 0);
        Check.same("no task", x.digest(), empty);
        Check.badState(x, "undo once more", () -> x.undo());
    }

    private static void fourStates() {
        EdgeTasks x = new EdgeTasks();
        for (int t = 0; t < 7; t++) {
            x.addTask(0, t, 100, 5);
        }
        for (int left = 3; left >= 0; left--) {
            Check.same("states left", x.undo(), left);
            Check.same("tasks then", x.value(1), 3 + left);
        }
        Check.badState(x, "the oldest were dropped", () -> x.undo());
        x.addTask(0, 9, 100, 5);
        Check.same("saving goes on", x.undo(), 0);
        Check.same("tasks at last", x.value(1), 3);
    }

    private static void everyChangeSaves() {
        EdgeTasks x = new EdgeTasks();
        x.begin(2);
        Check.same("begin", Check.undoAll(x), 1);
        x.giveDominance();
        Check.same("giveDominance", Check.undoAll(x), 1);
        x.carryOut();
        Check.same("carryOut", Check.undoAll(x), 1);
        x.addTask(0, 1, 2, 3);
        x.setDates(0, 1, 2);
        Check.same("addTask and setDates", Check.undoAll(x), 2);
        x.addTask(0, 1, 2, 3);
        x.addTask(0, 1, 2, 3);
        x.give(0, 1, true);
        x.give(0, 1, false);
        Check.same("addTask and give", Check.undoAll(x), 4);
    }

    private static void whatSavesNothing() {
        EdgeTasks x = new EdgeTasks();
        x.addTask(0, 0, 20, 5);
        x.addTask(0, 0, 20, 5);
        x.makespan();
        x.inBest(0, 0);
        x.drawn(0, 1);
        x.dominates(0, 1);
        x.leastDue(0);
        x.lowerBound();
        x.refutes(0, 1);
        x.decided();
        x.append('x');
        x.carryOut();
        x.clearText();
        x.digest();
        x.value(5);
        x.why(0, 1);
        Check.same("saved states", Check.undoAll(x), 2);
    }

    /** Answers that were worked out before a change may not stay behind it, nor behind its undoing. */
    private static void undoRestoresAnswers() {
        EdgeTasks x = new EdgeTasks();
        x.addTask(0, 0, 20, 5);
        x.addTask(0, 0, 20, 6);
        Check.same("makespan", x.makespan(), 11);
        Check.same("firstStart", x.firstStart(1), 0);
        x.setDates(1, 7, 20);
        Check.same("makespan then", x.makespan(), 13);
        Check.same("firstStart then", x.firstStart(1), 7);
        x.give(1, 0, true);
        Check.same("makespan with a precedence", x.makespan(), 18);
        Check.same("firstStart with a precedence", x.firstStart(0), 13);
        Check.write(x, "q10;t0:0-20*2;");
        x.carryOut();
        Check.same("makespan by a text", x.makespan(), 13);
        Check.same("lastEnd by a text", x.lastEnd(0), 20);
        x.undo();
        Check.same("makespan after undo", x.makespan(), 18);
        Check.same("firstStart after undo", x.firstStart(0), 13);
        x.undo();
        x.undo();
        Check.same("makespan after three", x.makespan(), 11);
        Check.same("firstStart after three", x.firstStart(1), 0);
        x.giveDominance();
        x.begin(1);
        Check.same("makespan after begin", x.makespan(), 0);
    }

    private static void digest() {
        EdgeTasks x = new EdgeTasks();
        x.begin(2);
        x.addTask(0, 0, 5, 5);
        x.addTask(0, 1, 40, 6);
        x.addTask(1, 2, 50, 7);
        x.give(1, 2, true);
        x.append('t');
        x.append('0');
        Check.same("digest", x.digest(), Check.hash(2, 2, 3, 1, 1, 0, 0,
                0, 0, 5, 5, 0, 0, 0, 5, 6,
                0, 1, 40, 6, 0, 4, 5, 40, 4,
                1, 2, 50, 7, 2, 0, 11, 50, 0, 4));
    }

    private static void digestInAContradiction() {
        EdgeTasks x = new EdgeTasks();
        x.addTask(0, 0, 5, 5);
        x.addTask(0, 1, 6, 5);
        Check.same("digest in a contradiction", x.digest(), Check.hash(0, 1, 2, 0, 1, 1, -1,
                0, 0, 5, 5, 0, 0,
                0, 1, 6, 5, 0, 0, 2));
        x.digest();
        Check.same("digest changes nothing", x.undo(), 1);
    }
}
