/** Promises 1 to 8: a new object, begin, addTask, setDates, give, giveDominance, task, value. */
public final class TaskTests {
    public static void main(String[] args) {
        newObject();
        begin();
        addTask();
        setDates();
        give();
        giveRows();
        giveDominance();
        giveDominanceThen();
        task();
        value();
        Check.end();
    }

    private static void newObject() {
        EdgeTasks x = new EdgeTasks();
        Check.same("NONE", EdgeTasks.NONE, -1);
        long[] due = {1, 0, 0, 0, 0, 0};
        for (int what = 0; what < due.length; what++) {
            Check.same("new value(" + what + ")", x.value(what), due[what]);
        }
        Check.same("new digest", x.digest(), Check.hash(0, 1, 0, 0, 0, 0, 0, 0));
        Check.badState(x, "new undo", () -> x.undo());
        Check.outOfBounds(x, "new task", () -> x.task(0, 0));
        Check.outOfBounds(x, "new addTask on a second machine", () -> x.addTask(1, 0, 1, 1));
        Check.same("new clearText", x.clearText(), 0);
    }

    private static void begin() {
        EdgeTasks x = new EdgeTasks();
        for (int machines : new int[] {0, 4, -1, Integer.MIN_VALUE, Integer.MAX_VALUE}) {
            Check.badArgument(x, "begin(" + machines + ")", () -> x.begin(machines));
        }
        Check.same("begin without tasks", x.begin(3), 0);
        Check.same("begin again", x.begin(2), 0);
        x.addTask(1, 0, 9, 1);
        x.addTask(1, 0, 9, 1);
        x.give(0, 1, true);
        Check.same("begin with tasks", x.begin(1), 2);
        Check.same("machines then", x.value(0), 1);
        Check.same("tasks then", x.value(1), 0);
        Check.same("given then", x.value(2), 0);
        x.addTask(0, 0, 9, 1);
        x.addTask(0, 0, 9, 1);
        Check.same("nothing given to new tasks", x.task(1, 4) + x.task(0, 5), 0);
        x.undo();
        x.undo();
        Check.same("undone begin", x.undo(), 1);
        Check.same("machines restored", x.value(0), 2);
        Check.same("given restored", x.task(1, 4), 1);
    }

    private static void addTask() {
        EdgeTasks x = Check.machines(2);
        Check.same("least", x.addTask(0, 0, 1, 1), 0);
        Check.same("greatest", x.addTask(1, 200, 400, 50), 1);
        Check.outOfBounds(x, "machine -1", () -> x.addTask(-1, 0, 1, 1));
        Check.outOfBounds(x, "machine 2 of 2, and all else wrong", () -> x.addTask(2, -1, 0, 0));
        Check.badArgument(x, "release -1", () -> x.addTask(0, -1, 1, 1));
        Check.badArgument(x, "release 201", () -> x.addTask(0, 201, 400, 1));
        Check.badArgument(x, "due 0", () -> x.addTask(0, 0, 0, 1));
        Check.badArgument(x, "due 401", () -> x.addTask(0, 0, 401, 1));
        Check.badArgument(x, "duration 0", () -> x.addTask(0, 0, 1, 0));
        Check.badArgument(x, "duration 51", () -> x.addTask(0, 0, 1, 51));
        for (int t = 2; t < 8; t++) {
            Check.same("number", x.addTask(0, 5, 4, 3), t);
        }
        Check.outOfBounds(x, "ninth task, no machine", () -> x.addTask(2, 0, 1, 1));
        Check.badArgument(x, "ninth task, bad duration", () -> x.addTask(0, 0, 1, 51));
        Check.badState(x, "ninth task", () -> x.addTask(0, 0, 1, 1));
        Check.same("saved states", x.undo(), 3);
        Check.same("tasks after undo", x.value(1), 7);
    }

    private static void setDates() {
        EdgeTasks x = new EdgeTasks();
        Check.outOfBounds(x, "no task", () -> x.setDates(0, -1, 0));
        x.addTask(0, 3, 30, 5);
        x.addTask(0, 4, 40, 6);
        Check.outOfBounds(x, "task -1", () -> x.setDates(-1, 0, 1));
        Check.outOfBounds(x, "task 2 of 2", () -> x.setDates(2, 0, 1));
        Check.badArgument(x, "release -1", () -> x.setDates(0, -1, 1));
        Check.badArgument(x, "release 201", () -> x.setDates(0, 201, 1));
        Check.badArgument(x, "due 0", () -> x.setDates(0, 0, 0));
        Check.badArgument(x, "due 401", () -> x.setDates(0, 0, 401));
        Check.same("before", x.setDates(0, 200, 1), 27);
        Check.same("release", x.task(0, 1), 200);
        Check.same("due", x.task(0, 2), 1);
        Check.same("the other one's release", x.task(1, 1), 4);
        Check.same("before, less than 0", x.setDates(0, 0, 400), -199);
        x.undo();
        Check.same("release restored", x.task(0, 1), 200);
        x.undo();
        Check.same("due restored", x.task(0, 2), 30);
    }

    private static EdgeTasks free(int tasks) {
        EdgeTasks x = new EdgeTasks();
        for (int t = 0; t < tasks; t++) {
            x.addTask(0, 0, 400, 1);
        }
        return x;
    }

    private static void give() {
        EdgeTasks x = free(3);
        Check.outOfBounds(x, "give(-1, -1)", () -> x.give(-1, -1, true));
        Check.outOfBounds(x, "give(0, 3)", () -> x.give(0, 3, true));
        Check.outOfBounds(x, "give(3, 0)", () -> x.give(3, 0, false));
        Check.badArgument(x, "give(1, 1)", () -> x.give(1, 1, true));
        Check.badArgument(x, "take(1, 1)", () -> x.give(1, 1, false));
        Check.badState(x, "take what is not given", () -> x.give(0, 1, false));
        Check.same("first", x.give(0, 1, true), 1);
        Check.badState(x, "given twice", () -> x.give(0, 1, true));
        Check.badState(x, "the other way round", () -> x.give(1, 0, true));
        Check.badState(x, "take the other way round", () -> x.give(1, 0, false));
        Check.same("taken away", x.give(0, 1, false), 0);
        Check.same("not before", x.task(0, 5), 0);
        Check.same("not behind", x.task(1, 4), 0);
        Check.same("then the other way round", x.give(1, 0, true), 1);
        x.undo();
        x.undo();
        Check.same("restored", x.task(0, 5), 2);
    }

    private static void giveRows() {
        EdgeTasks x = free(8);
        for (int t = 0; t < 7; t++) {
            Check.same("row", x.give(t, t + 1, true), t + 1);
        }
        Check.badState(x, "against the whole row", () -> x.give(7, 0, true));
        Check.badState(x, "against a part of it", () -> x.give(5, 2, true));
        Check.badState(x, "not given itself", () -> x.give(0, 7, false));
        Check.same("along the row", x.give(0, 7, true), 8);
        Check.same("break the row", x.give(3, 4, false), 7);
        Check.badState(x, "still given directly", () -> x.give(7, 0, true));
        Check.same("behind the break", x.give(4, 3, true), 8);
        EdgeTasks y = free(3);
        y.give(1, 0, true);
        y.give(0, 2, true);
        Check.badState(y, "against a row over 0", () -> y.give(2, 1, true));
    }

    private static void giveDominance() {
        EdgeTasks x = free(3);
        Check.same("alike tasks", x.giveDominance(), 3);
        Check.same("0 before", x.task(0, 5), 6);
        Check.same("1 before", x.task(1, 5), 4);
        Check.same("nothing more", x.giveDominance(), 0);
        Check.same("undoable even so", x.undo(), 3);
        Check.same("given still", x.value(2), 3);
        x.undo();
        Check.same("given no more", x.value(2), 0);
    }

    /** A precedence that giveDominance itself gives decides about the next pairs. */
    private static void giveDominanceThen() {
        EdgeTasks x = free(3);
        x.give(2, 0, true);
        Check.same("2 dominates 1 at first", x.dominates(2, 1), true);
        Check.same("1 dominates 2 at first", x.dominates(1, 2), false);
        Check.same("given by dominance", x.giveDominance(), 2);
        Check.same("1 before 0 and 2", x.task(1, 5), 5);
        Check.same("2 before 0", x.task(2, 5), 1);
    }

    private static void task() {
        EdgeTasks x = Check.machines(3);
        x.addTask(2, 7, 90, 11);
        x.addTask(0, 1, 80, 12);
        x.addTask(1, 2, 70, 13);
        x.give(0, 1, true);
        x.give(1, 2, true);
        long[][] due = {{2, 7, 90, 11, 0, 2}, {0, 1, 80, 12, 1, 4}, {1, 2, 70, 13, 2, 0}};
        for (int t = 0; t < 3; t++) {
            for (int what = 0; what < 6; what++) {
                Check.same("task(" + t + ", " + what + ")", x.task(t, what), due[t][what]);
            }
        }
        Check.outOfBounds(x, "task -1, bad what", () -> x.task(-1, 6));
        Check.outOfBounds(x, "task 3", () -> x.task(3, 0));
        Check.badArgument(x, "what -1", () -> x.task(0, -1));
        Check.badArgument(x, "what 6", () -> x.task(0, 6));
    }

    private static void value() {
        EdgeTasks x = Check.machines(2);
        x.addTask(0, 0, 10, 4);
        x.addTask(0, 0, 100, 4);
        x.addTask(1, 0, 100, 4);
        x.addTask(0, 5, 100, 4);
        x.give(1, 2, true);
        long[] due = {2, 4, 1, 3, 0, 2};
        for (int what = 0; what < due.length; what++) {
            Check.same("value(" + what + ")", x.value(what), due[what]);
        }
        x.setDates(0, 7, 10);
        Check.same("contradiction", x.value(4), 1);
        Check.same("undecided pairs in a contradiction", x.value(5), EdgeTasks.NONE);
        Check.same("pairs in a contradiction", x.value(3), 3);
        Check.badArgument(x, "value(-1)", () -> x.value(-1));
        Check.badArgument(x, "value(6)", () -> x.value(6));
    }
}
