/**
 * Promises 1 to 27: each argument's range, with one less than the least, the least, the greatest and one more;
 * each exception that is listed; and, where several apply, that the one listed first is thrown.
 */
public final class ArgumentEdgeTests {
    private static final Class<?> BOUNDS = IndexOutOfBoundsException.class;
    private static final Class<?> ARGUMENT = IllegalArgumentException.class;
    private static final Class<?> STATE = IllegalStateException.class;
    private static final int LOWEST = Integer.MIN_VALUE;
    private static final int HIGHEST = Integer.MAX_VALUE;

    private interface With {
        void call(EdgeTasks x, int argument);
    }

    public static void main(String[] args) {
        begin();
        addTask();
        addTaskWhereSeveralApply();
        setDates();
        setDatesWhereSeveralApply();
        giveTasks();
        giveStates();
        giveWhereSeveralApply();
        task();
        value();
        reasoningOfOneTask();
        reasoningOfTwoTasks();
        reasoningInAContradiction();
        inBest();
        drawn();
        whatIfOfTasks();
        decided();
        append();
        undo();
        callsWithoutExceptions();
        Check.end();
    }

    // ---- what the calls are made on

    private static EdgeTasks nothing() {
        return new EdgeTasks();
    }

    /** Two machines, three tasks, one given precedence, four saved states, a text. */
    private static EdgeTasks three() {
        EdgeTasks x = new EdgeTasks();
        Check.write(x, "t1:3-70*4;p01;");
        x.begin(2);
        x.addTask(0, 0, 60, 5);
        x.addTask(0, 4, 50, 6);
        x.addTask(1, 0, 60, 5);
        x.give(0, 1, true);
        return x;
    }

    private static EdgeTasks eight() {
        EdgeTasks x = new EdgeTasks();
        for (int t = 0; t < 8; t++) {
            x.addTask(0, t, 400, 5 + t);
        }
        return x;
    }

    /** As three(), but the task 2 does not fit. */
    private static EdgeTasks contradiction() {
        EdgeTasks x = three();
        x.setDates(2, 0, 4);
        return x;
    }

    private static EdgeTasks fullText() {
        EdgeTasks x = three();
        x.clearText();
        for (int k = 0; k < 100; k++) {
            x.append("p02;q02;".charAt(k % 8));
        }
        return x;
    }

    private static final Check.Setup[] ALL = {
        ArgumentEdgeTests::nothing, ArgumentEdgeTests::three, ArgumentEdgeTests::eight,
        ArgumentEdgeTests::contradiction, ArgumentEdgeTests::fullText};

    private static void range(Check.Setup setup, String what, int least, int greatest, Class<?> due, With with) {
        for (int v : new int[] {LOWEST, least - 1, greatest + 1, HIGHEST}) {
            Check.refused(setup, what + " " + v, due, x -> with.call(x, v));
        }
        for (int v : new int[] {least, greatest}) {
            Check.taken(setup, what + " " + v, x -> with.call(x, v));
        }
    }

    private static void outside(Check.Setup setup, String what, int least, int greatest, Class<?> due, With with) {
        for (int v : new int[] {LOWEST, least - 1, greatest + 1, HIGHEST}) {
            Check.refused(setup, what + " " + v, due, x -> with.call(x, v));
        }
    }

    // ---- promises 2 to 6

    private static void begin() {
        Check.sentence("Promise 2, machines: 1 to 3");
        for (Check.Setup setup : ALL) {
            range(setup, "begin", 1, 3, ARGUMENT, (x, v) -> x.begin(v));
        }
    }

    private static void addTask() {
        for (int machines = 1; machines <= 3; machines++) {
            int count = machines;
            Check.sentence("Promise 3, machine: number of a machine, of " + count);
            range(() -> Check.machines(count), "addTask", 0, count - 1, BOUNDS, (x, v) -> x.addTask(v, 0, 9, 1));
        }
        Check.sentence("Promise 3, release: 0 to 200");
        range(ArgumentEdgeTests::three, "release", 0, 200, ARGUMENT, (x, v) -> x.addTask(0, v, 9, 1));
        Check.sentence("Promise 3, due: 1 to 400");
        range(ArgumentEdgeTests::three, "due", 1, 400, ARGUMENT, (x, v) -> x.addTask(0, 0, v, 1));
        Check.sentence("Promise 3, duration: 1 to 50");
        range(ArgumentEdgeTests::three, "duration", 1, 50, ARGUMENT, (x, v) -> x.addTask(0, 0, 9, v));
        Check.sentence("Promise 3, IllegalStateException if there are 8 tasks");
        Check.refused(ArgumentEdgeTests::eight, "a ninth task", STATE, x -> x.addTask(0, 0, 9, 1));
        Check.taken(ArgumentEdgeTests::eight, "the eighth task once more", x -> {
            x.undo();
            x.addTask(0, 0, 9, 1);
        });
    }

    private static void addTaskWhereSeveralApply() {
        Check.sentence("Promise 3, no such machine is listed before another argument out of range");
        outside(ArgumentEdgeTests::three, "machine, bad release", 0, 1, BOUNDS, (x, v) -> x.addTask(v, 201, 9, 1));
        outside(ArgumentEdgeTests::three, "machine, bad due date", 0, 1, BOUNDS, (x, v) -> x.addTask(v, 0, 0, 1));
        outside(ArgumentEdgeTests::three, "machine, bad duration", 0, 1, BOUNDS, (x, v) -> x.addTask(v, 0, 9, 51));
        Check.sentence("Promise 3, no such machine is listed before 8 tasks");
        outside(ArgumentEdgeTests::eight, "machine, 8 tasks", 0, 0, BOUNDS, (x, v) -> x.addTask(v, 0, 9, 1));
        outside(ArgumentEdgeTests::eight, "machine, all wrong", 0, 0, BOUNDS, (x, v) -> x.addTask(v, -1, 401, 0));
        Check.sentence("Promise 3, another argument out of range is listed before 8 tasks");
        outside(ArgumentEdgeTests::eight, "release, 8 tasks", 0, 200, ARGUMENT, (x, v) -> x.addTask(0, v, 9, 1));
        outside(ArgumentEdgeTests::eight, "due, 8 tasks", 1, 400, ARGUMENT, (x, v) -> x.addTask(0, 0, v, 1));
        outside(ArgumentEdgeTests::eight, "duration, 8 tasks", 1, 50, ARGUMENT, (x, v) -> x.addTask(0, 0, 9, v));
    }

    private static void setDates() {
        Check.sentence("Promise 4, task: number of a task");
        Check.refused(ArgumentEdgeTests::nothing, "task 0 of none", BOUNDS, x -> x.setDates(0, 0, 9));
        range(ArgumentEdgeTests::three, "task", 0, 2, BOUNDS, (x, v) -> x.setDates(v, 0, 9));
        range(ArgumentEdgeTests::eight, "task", 0, 7, BOUNDS, (x, v) -> x.setDates(v, 0, 9));
        for (int t = 0; t < 3; t++) {
            int task = t;
            Check.sentence("Promise 4, release: 0 to 200, of the task " + t);
            range(ArgumentEdgeTests::three, "release", 0, 200, ARGUMENT, (x, v) -> x.setDates(task, v, 9));
            Check.sentence("Promise 4, due: 1 to 400, of the task " + t);
            range(ArgumentEdgeTests::three, "due", 1, 400, ARGUMENT, (x, v) -> x.setDates(task, 0, v));
        }
    }

    private static void setDatesWhereSeveralApply() {
        Check.sentence("Promise 4, no such task is listed before another argument out of range");
        outside(ArgumentEdgeTests::three, "task, bad release", 0, 2, BOUNDS, (x, v) -> x.setDates(v, 201, 9));
        outside(ArgumentEdgeTests::three, "task, bad due date", 0, 2, BOUNDS, (x, v) -> x.setDates(v, 0, 0));
        outside(ArgumentEdgeTests::nothing, "task, both bad", 0, -1, BOUNDS, (x, v) -> x.setDates(v, -1, 401));
    }

    private static void giveTasks() {
        Check.sentence("Promise 5, a: number of a task");
        Check.refused(ArgumentEdgeTests::nothing, "a 0 of none", BOUNDS, x -> x.give(0, 1, true));
        range(() -> cleared(three()), "a", 0, 2, BOUNDS, (x, v) -> x.give(v, v == 2 ? 1 : 2, true));
        outside(ArgumentEdgeTests::three, "a, taken away", 0, 2, BOUNDS, (x, v) -> x.give(v, 1, false));
        range(ArgumentEdgeTests::eight, "a", 0, 7, BOUNDS, (x, v) -> x.give(v, 3, true));
        Check.sentence("Promise 5, b: number of another task");
        range(ArgumentEdgeTests::eight, "b", 0, 7, BOUNDS, (x, v) -> x.give(3, v, true));
        outside(ArgumentEdgeTests::three, "b, taken away", 0, 2, BOUNDS, (x, v) -> x.give(0, v, false));
        Check.sentence("Promise 5, IllegalArgumentException if a and b are the same");
        for (int t = 0; t < 8; t++) {
            int task = t;
            Check.refused(ArgumentEdgeTests::eight, "same " + t, ARGUMENT, x -> x.give(task, task, true));
            Check.refused(ArgumentEdgeTests::eight, "same taken " + t, ARGUMENT, x -> x.give(task, task, false));
        }
    }

    /** The same without the given precedence. */
    private static EdgeTasks cleared(EdgeTasks x) {
        x.give(0, 1, false);
        return x;
    }

    private static EdgeTasks row() {
        EdgeTasks x = eight();
        for (int t = 0; t < 7; t++) {
            x.give(t, t + 1, true);
        }
        return x;
    }

    private static void giveStates() {
        Check.sentence("Promise 5, IllegalStateException if it is so already");
        Check.refused(ArgumentEdgeTests::three, "given already", STATE, x -> x.give(0, 1, true));
        Check.refused(ArgumentEdgeTests::three, "not given", STATE, x -> x.give(1, 0, false));
        Check.refused(ArgumentEdgeTests::three, "not given at all", STATE, x -> x.give(1, 2, false));
        Check.refused(ArgumentEdgeTests::row, "given by a row only", STATE, x -> x.give(0, 7, false));
        Check.taken(ArgumentEdgeTests::three, "taken away", x -> x.give(0, 1, false));
        Check.taken(ArgumentEdgeTests::row, "given by a row, not itself", x -> x.give(0, 7, true));
        Check.sentence("Promise 5, with holds, if there is a row of given precedences from b to a");
        Check.refused(ArgumentEdgeTests::three, "a row of one", STATE, x -> x.give(1, 0, true));
        Check.refused(ArgumentEdgeTests::row, "a row of two", STATE, x -> x.give(2, 0, true));
        Check.refused(ArgumentEdgeTests::row, "a row of two at the end", STATE, x -> x.give(7, 5, true));
        Check.refused(ArgumentEdgeTests::row, "a row of seven", STATE, x -> x.give(7, 0, true));
        for (int t = 0; t < 7; t++) {
            int broken = t;
            Check.taken(ArgumentEdgeTests::row, "a row that is broken behind " + t, x -> {
                x.give(broken, broken + 1, false);
                x.give(7, 0, true);
            });
        }
        Check.sentence("Promise 5, without holds, a row from b to a is no fault");
        Check.taken(ArgumentEdgeTests::row, "taken away along the row", x -> x.give(3, 4, false));
    }

    private static void giveWhereSeveralApply() {
        Check.sentence("Promise 5, no such task is listed before a and b being the same");
        outside(ArgumentEdgeTests::three, "both", 0, 2, BOUNDS, (x, v) -> x.give(v, v, true));
        outside(ArgumentEdgeTests::three, "both taken", 0, 2, BOUNDS, (x, v) -> x.give(v, v, false));
        Check.sentence("Promise 5, no such task is listed before it is so already");
        outside(ArgumentEdgeTests::three, "a, not given", 0, 2, BOUNDS, (x, v) -> x.give(v, 0, false));
        outside(ArgumentEdgeTests::three, "b, not given", 0, 2, BOUNDS, (x, v) -> x.give(0, v, false));
        Check.sentence("Promise 5, a and b being the same is listed before it is so already");
        Check.refused(ArgumentEdgeTests::three, "same, not given", ARGUMENT, x -> x.give(1, 1, false));
        Check.refused(ArgumentEdgeTests::row, "same, within a row", ARGUMENT, x -> x.give(3, 3, true));
    }

    // ---- promises 7 and 8

    private static void task() {
        Check.sentence("Promise 7, task: number of a task");
        Check.refused(ArgumentEdgeTests::nothing, "task 0 of none", BOUNDS, x -> x.task(0, 0));
        range(ArgumentEdgeTests::three, "task", 0, 2, BOUNDS, (x, v) -> x.task(v, 0));
        range(ArgumentEdgeTests::eight, "task", 0, 7, BOUNDS, (x, v) -> x.task(v, 5));
        Check.refused(() -> begun(eight()), "a task of before", BOUNDS, x -> x.task(0, 0));
        Check.sentence("Promise 7, what: 0 to 5");
        range(ArgumentEdgeTests::three, "what", 0, 5, ARGUMENT, (x, v) -> x.task(2, v));
        Check.sentence("Promise 7, no such task is listed before what out of range");
        outside(ArgumentEdgeTests::three, "task, bad what", 0, 2, BOUNDS, (x, v) -> x.task(v, -1));
        outside(ArgumentEdgeTests::three, "what, bad task", 0, 5, BOUNDS, (x, v) -> x.task(3, v));
    }

    private static EdgeTasks begun(EdgeTasks x) {
        x.begin(1);
        return x;
    }

    private static void value() {
        Check.sentence("Promise 8, what: 0 to 5");
        for (Check.Setup setup : ALL) {
            range(setup, "value", 0, 5, ARGUMENT, (x, v) -> x.value(v));
        }
    }

    // ---- promises 9 to 14

    private static void reasoningOfOneTask() {
        With[] calls = {(x, v) -> x.firstStart(v), (x, v) -> x.lastEnd(v), (x, v) -> x.slack(v)};
        String[] names = {"Promise 9, firstStart", "Promise 10, lastEnd", "Promise 14, slack"};
        for (int k = 0; k < calls.length; k++) {
            Check.sentence(names[k] + ", no such task");
            outside(ArgumentEdgeTests::nothing, "task of none", 0, -1, BOUNDS, calls[k]);
            range(ArgumentEdgeTests::three, "task of three", 0, 2, BOUNDS, calls[k]);
            range(ArgumentEdgeTests::eight, "task of eight", 0, 7, BOUNDS, calls[k]);
        }
    }

    private interface Pair {
        void call(EdgeTasks x, int a, int b);
    }

    private static final Pair[] PAIRS = {
        (x, a, b) -> x.precedes(a, b), (x, a, b) -> x.why(a, b), (x, a, b) -> x.because(a, b)};
    private static final String[] PAIR_NAMES = {
        "Promise 11, precedes", "Promise 12, why", "Promise 13, because"};

    private static void pairRange(Pair pair) {
        outside(ArgumentEdgeTests::nothing, "a of none", 0, -1, BOUNDS, (x, v) -> pair.call(x, v, 0));
        range(ArgumentEdgeTests::three, "a of three", 0, 2, BOUNDS, (x, v) -> pair.call(x, v, 1));
        range(ArgumentEdgeTests::three, "b of three", 0, 2, BOUNDS, (x, v) -> pair.call(x, 1, v));
        range(ArgumentEdgeTests::three, "the same of three", 0, 2, BOUNDS, (x, v) -> pair.call(x, v, v));
        range(ArgumentEdgeTests::eight, "a of eight", 0, 7, BOUNDS, (x, v) -> pair.call(x, v, 0));
        range(ArgumentEdgeTests::eight, "b of eight", 0, 7, BOUNDS, (x, v) -> pair.call(x, 7, v));
    }

    private static void reasoningOfTwoTasks() {
        for (int k = 0; k < PAIRS.length; k++) {
            Check.sentence(PAIR_NAMES[k] + ", no such task");
            pairRange(PAIRS[k]);
        }
    }

    private static void reasoningInAContradiction() {
        With[] ones = {(x, v) -> x.firstStart(v), (x, v) -> x.lastEnd(v), (x, v) -> x.slack(v)};
        String[] names = {"Promise 9, firstStart", "Promise 10, lastEnd", "Promise 14, slack"};
        for (int k = 0; k < ones.length; k++) {
            With one = ones[k];
            Check.sentence(names[k] + ", IllegalStateException in a contradiction");
            for (int t = 0; t < 3; t++) {
                int task = t;
                Check.refused(ArgumentEdgeTests::contradiction, "task " + t, STATE, x -> one.call(x, task));
            }
            Check.sentence(names[k] + ", no such task is listed before a contradiction");
            outside(ArgumentEdgeTests::contradiction, "task", 0, 2, BOUNDS, one);
        }
        for (int k = 0; k < PAIRS.length; k++) {
            Pair pair = PAIRS[k];
            Check.sentence(PAIR_NAMES[k] + ", IllegalStateException in a contradiction");
            for (int t = 0; t < 9; t++) {
                int a = t / 3;
                int b = t % 3;
                Check.refused(ArgumentEdgeTests::contradiction, a + ", " + b, STATE, x -> pair.call(x, a, b));
            }
            Check.sentence(PAIR_NAMES[k] + ", no such task is listed before a contradiction");
            outside(ArgumentEdgeTests::contradiction, "a", 0, 2, BOUNDS, (x, v) -> pair.call(x, v, 0));
            outside(ArgumentEdgeTests::contradiction, "b", 0, 2, BOUNDS, (x, v) -> pair.call(x, 0, v));
        }
    }

    // ---- promises 15 to 17

    private static void inBest() {
        Check.sentence("Promise 16, no such task");
        outside(ArgumentEdgeTests::nothing, "task of none", 0, -1, BOUNDS, (x, v) -> x.inBest(v, 0));
        range(ArgumentEdgeTests::three, "task of three", 0, 2, BOUNDS, (x, v) -> x.inBest(v, 0));
        range(ArgumentEdgeTests::eight, "task of eight", 0, 7, BOUNDS, (x, v) -> x.inBest(v, 1));
        Check.sentence("Promise 16, what: 0 or 1");
        range(ArgumentEdgeTests::three, "what", 0, 1, ARGUMENT, (x, v) -> x.inBest(2, v));
        range(ArgumentEdgeTests::contradiction, "what without a plan", 0, 1, ARGUMENT, (x, v) -> x.inBest(2, v));
        Check.sentence("Promise 16, no such task is listed before what out of range");
        outside(ArgumentEdgeTests::three, "task, bad what", 0, 2, BOUNDS, (x, v) -> x.inBest(v, 2));
        outside(ArgumentEdgeTests::contradiction, "the same", 0, 2, BOUNDS, (x, v) -> x.inBest(v, -1));
        outside(ArgumentEdgeTests::contradiction, "without a plan", 0, 2, BOUNDS, (x, v) -> x.inBest(v, 0));
    }

    private static void drawn() {
        Check.sentence("Promise 17, seed: 0 to 999999");
        for (Check.Setup setup : ALL) {
            range(setup, "seed", 0, 999999, ARGUMENT, (x, v) -> x.drawn(v, 1));
        }
        Check.sentence("Promise 17, rows: 1 to 50");
        for (Check.Setup setup : ALL) {
            range(setup, "rows", 1, 50, ARGUMENT, (x, v) -> x.drawn(0, v));
        }
        Check.refused(ArgumentEdgeTests::three, "both", ARGUMENT, x -> x.drawn(-1, 51));
    }

    // ---- promises 18 to 22

    private static void whatIfOfTasks() {
        Pair[] pairs = {(x, a, b) -> x.dominates(a, b), (x, a, b) -> x.refutes(a, b)};
        String[] names = {"Promise 18, dominates", "Promise 21, refutes"};
        for (int k = 0; k < pairs.length; k++) {
            Pair pair = pairs[k];
            Check.sentence(names[k] + ", no such task");
            pairRange(pair);
            range(ArgumentEdgeTests::contradiction, "a", 0, 2, BOUNDS, (x, v) -> pair.call(x, v, 1));
            range(ArgumentEdgeTests::contradiction, "b", 0, 2, BOUNDS, (x, v) -> pair.call(x, 1, v));
        }
        Check.sentence("Promise 19, leastDue, no such task");
        outside(ArgumentEdgeTests::nothing, "task of none", 0, -1, BOUNDS, (x, v) -> x.leastDue(v));
        range(ArgumentEdgeTests::three, "task of three", 0, 2, BOUNDS, (x, v) -> x.leastDue(v));
        range(ArgumentEdgeTests::eight, "task of eight", 0, 7, BOUNDS, (x, v) -> x.leastDue(v));
        range(ArgumentEdgeTests::contradiction, "task", 0, 2, BOUNDS, (x, v) -> x.leastDue(v));
    }

    private static void decided() {
        Check.sentence("Promise 22, IllegalStateException in a contradiction");
        Check.refused(ArgumentEdgeTests::contradiction, "decided", STATE, x -> x.decided());
        Check.refused(() -> tooTightAlone(), "decided without pairs", STATE, x -> x.decided());
        Check.taken(ArgumentEdgeTests::nothing, "decided", x -> x.decided());
        Check.taken(ArgumentEdgeTests::three, "decided", x -> x.decided());
    }

    private static EdgeTasks tooTightAlone() {
        EdgeTasks x = new EdgeTasks();
        x.addTask(0, 0, 4, 5);
        return x;
    }

    // ---- promises 23 to 27

    private static void append() {
        Check.sentence("Promise 23, value: 0 to 127");
        range(ArgumentEdgeTests::nothing, "append", 0, 127, ARGUMENT, (x, v) -> x.append(v));
        range(ArgumentEdgeTests::three, "append", 0, 127, ARGUMENT, (x, v) -> x.append(v));
        Check.refused(ArgumentEdgeTests::three, "append 255", ARGUMENT, x -> x.append(255));
        Check.sentence("Promise 23, IllegalStateException if the text has 100 bytes");
        for (int v = 0; v <= 127; v++) {
            int value = v;
            Check.refused(ArgumentEdgeTests::fullText, "append " + v, STATE, x -> x.append(value));
        }
        Check.sentence("Promise 23, value out of range is listed before a text of 100 bytes");
        outside(ArgumentEdgeTests::fullText, "append", 0, 127, ARGUMENT, (x, v) -> x.append(v));
    }

    private static void undo() {
        Check.sentence("Promise 26, IllegalStateException if there is no saved state");
        Check.refused(ArgumentEdgeTests::nothing, "undo", STATE, x -> x.undo());
        Check.refused(() -> spent(three()), "undo, all undone", STATE, x -> x.undo());
        Check.refused(() -> spent(eight()), "undo, the oldest dropped", STATE, x -> x.undo());
        Check.taken(ArgumentEdgeTests::three, "four times undo", x -> spent(x));
    }

    private static EdgeTasks spent(EdgeTasks x) {
        for (int k = 0; k < 4; k++) {
            x.undo();
        }
        return x;
    }

    private static void callsWithoutExceptions() {
        Check.sentence("Promises 6, 15, 20, 24, 25, 27 list no exception");
        for (Check.Setup setup : ALL) {
            Check.taken(setup, "giveDominance", x -> x.giveDominance());
            Check.taken(setup, "makespan", x -> x.makespan());
            Check.taken(setup, "lowerBound", x -> x.lowerBound());
            Check.taken(setup, "clearText", x -> x.clearText());
            Check.taken(setup, "carryOut", x -> x.carryOut());
            Check.taken(setup, "digest", x -> x.digest());
        }
    }
}
