/** "Terms", sentence by sentence: limits of machines and tasks, the four rules, contradictions, plans, dominance. */
public final class TermsEdgeTests {
    public static void main(String[] args) {
        machines();
        tasks();
        limitsOfATask();
        oneTaskAtATime();
        releaseAndDue();
        givenPrecedence();
        atFirst();
        ruleOne();
        ruleTwo();
        ruleThreeBefore();
        ruleThreeBehind();
        ruleThreeOfSeven();
        ruleThreeOnOneMachine();
        ruleFourBefore();
        ruleFourBehind();
        ruleFourOnOneMachine();
        asLongAsSomethingChanges();
        contradictionOfATask();
        contradictionOfItself();
        contradictionOfASet();
        contradictionAtAnyTime();
        anyOrder();
        rowsKeepWhatIsGiven();
        startsOfARow();
        possiblePlans();
        makespans();
        bestOfSeveral();
        dominance();
        dominanceOfSets();
        Check.end();
    }

    /** A new object with these tasks, four numbers each: machine, release, due date, duration. */
    private static EdgeTasks with(int machines, int... tasks) {
        EdgeTasks x = Check.machines(machines);
        for (int k = 0; k + 3 < tasks.length; k += 4) {
            x.addTask(tasks[k], tasks[k + 1], tasks[k + 2], tasks[k + 3]);
        }
        return x;
    }

    private static void contradictory(EdgeTasks x, String what, boolean due) {
        Check.same(what + ", contradiction", x.value(4), due ? 1 : 0);
    }

    private static void bounds(EdgeTasks x, int task, int first, int last) {
        Check.same("firstStart(" + task + ")", x.firstStart(task), first);
        Check.same("lastEnd(" + task + ")", x.lastEnd(task), last);
        Check.same("slack(" + task + ")", x.slack(task), last - first - x.task(task, 3));
    }

    private static void machines() {
        Check.sentence("Terms, machines are 1 to 3, initially 1, numbered from 0");
        EdgeTasks x = new EdgeTasks();
        Check.same("machines initially", x.value(0), 1);
        Check.outOfBounds(x, "machine 1 of 1", () -> x.addTask(1, 0, 9, 1));
        for (int count = 1; count <= 3; count++) {
            int machines = count;
            x.begin(machines);
            Check.same("machines", x.value(0), machines);
            for (int m = 0; m < machines; m++) {
                x.addTask(m, 0, 9, 1);
                Check.same("machine", x.task(m, 0), m);
            }
            Check.outOfBounds(x, "one machine too many", () -> x.addTask(machines, 0, 9, 1));
        }
        x.begin(1);
        Check.outOfBounds(x, "a machine of before", () -> x.addTask(1, 0, 9, 1));
    }

    private static void tasks() {
        Check.sentence("Terms, at most 8 tasks, numbered from 0");
        EdgeTasks x = Check.machines(3);
        for (int t = 0; t < 8; t++) {
            int next = t;
            Check.outOfBounds(x, "before it is added", () -> x.task(next, 0));
            Check.same("number", x.addTask(t % 3, t, 100 + t, 1 + t), t);
        }
        Check.badState(x, "a ninth one", () -> x.addTask(0, 0, 9, 1));
        Check.outOfBounds(x, "there is no task 8", () -> x.task(8, 0));
        for (int t = 0; t < 8; t++) {
            Check.same("machine", x.task(t, 0), t % 3);
            Check.same("release", x.task(t, 1), t);
            Check.same("due date", x.task(t, 2), 100 + t);
            Check.same("duration", x.task(t, 3), 1 + t);
        }
        Check.same("tasks", x.value(1), 8);
        x.undo();
        Check.same("the eighth one again", x.addTask(0, 0, 9, 1), 7);
    }

    private static void limitsOfATask() {
        Check.sentence("Terms, a release is 0 to 200, a due date 1 to 400, a duration 1 to 50");
        EdgeTasks x = with(1, 0, 0, 400, 1, 0, 200, 400, 50, 0, 200, 1, 50);
        long[][] due = {{0, 400, 1}, {200, 400, 50}, {200, 1, 50}};
        for (int t = 0; t < 3; t++) {
            for (int what = 1; what <= 3; what++) {
                Check.same("task(" + t + ", " + what + ")", x.task(t, what), due[t][what - 1]);
            }
        }
        contradictory(x, "a due date before the release is no wrong input", true);
    }

    private static void oneTaskAtATime() {
        Check.sentence("Terms, a machine works on one task at a time");
        Check.same("one machine", with(1, 0, 0, 99, 5, 0, 0, 99, 6).makespan(), 11);
        Check.same("two machines", with(2, 0, 0, 99, 5, 1, 0, 99, 6).makespan(), 6);
        Check.sentence("Terms, without interrupting it");
        Check.same("a short task that has to be done in between", with(1, 0, 0, 99, 10, 0, 5, 7, 2).makespan(), 17);
    }

    private static void releaseAndDue() {
        Check.sentence("Terms, a task starts at its release or later");
        EdgeTasks x = with(1, 0, 200, 400, 50);
        Check.same("makespan", x.makespan(), 250);
        Check.same("start", x.inBest(0, 1), 200);
        Check.sentence("Terms, a task ends at its due date or earlier");
        x.setDates(0, 200, 250);
        Check.same("just at it", x.makespan(), 250);
        Check.same("drawn, just at it", x.drawn(1, 1), 250);
        contradictory(x, "just at it", false);
        x.setDates(0, 200, 249);
        Check.same("one too late", x.makespan(), EdgeTasks.NONE);
        Check.same("drawn, one too late", x.drawn(1, 1), EdgeTasks.NONE);
        contradictory(x, "one too late", true);
    }

    private static void givenPrecedence() {
        Check.sentence("Terms, a ends before b starts, or at its start");
        EdgeTasks x = with(2, 0, 0, 5, 5, 1, 0, 8, 3);
        x.give(0, 1, true);
        contradictory(x, "at its start", false);
        bounds(x, 0, 0, 5);
        bounds(x, 1, 5, 8);
        Check.same("makespan", x.makespan(), 8);
        Check.same("start", x.inBest(1, 1), 5);
        x.setDates(1, 0, 7);
        contradictory(x, "one too early", true);
        Check.same("makespan", x.makespan(), EdgeTasks.NONE);
        x.setDates(1, 6, 9);
        bounds(x, 1, 6, 9);
        Check.same("before it starts", x.makespan(), 9);
    }

    private static void atFirst() {
        Check.sentence("Terms, the first start is the release at first, the last end the due date");
        EdgeTasks x = with(2, 0, 200, 400, 50, 1, 0, 1, 1, 0, 0, 400, 1);
        bounds(x, 0, 200, 400);
        bounds(x, 1, 0, 1);
        bounds(x, 2, 0, 400);
        Check.sentence("Terms, at first just the given precedences hold");
        Check.same("precedes", x.precedes(1, 0), false);
        x.give(1, 0, true);
        Check.same("precedes", x.precedes(1, 0), true);
        Check.same("precedes", x.precedes(0, 1), false);
        Check.same("precedes", x.precedes(2, 0), false);
    }

    private static void ruleOne() {
        Check.sentence("Terms, rule 1");
        EdgeTasks x = Check.machines(3);
        for (int t = 0; t < 8; t++) {
            x.addTask(t % 3, 0, 400, 50);
        }
        int[] row = {3, 7, 0, 5, 1, 6, 2, 4};
        for (int k = 0; k < 7; k++) {
            x.give(row[k], row[k + 1], true);
        }
        for (int j = 0; j < 8; j++) {
            for (int k = 0; k < 8; k++) {
                Check.same("precedes(" + row[j] + ", " + row[k] + ")", x.precedes(row[j], row[k]), j < k);
                int why = j >= k ? EdgeTasks.NONE : j + 1 == k ? 0 : x.task(row[j], 0) == x.task(row[k], 0) ? 1 : 3;
                Check.same("why(" + row[j] + ", " + row[k] + ")", x.why(row[j], row[k]), why);
            }
            bounds(x, row[j], 50 * j, 50 * (j + 1));
        }
    }

    /** The task 1 starts so late that nothing else can come behind it; no set tells so. */
    private static void ruleTwo() {
        Check.sentence("Terms, rule 2: greater than the last end");
        for (int late = 99; late <= 101; late++) {
            EdgeTasks x = with(2, 0, 0, 150, 20, 0, late, 400, 30, 1, late, 400, 30);
            boolean tells = late + 30 + 20 > 150;
            Check.same("with the start " + late, x.precedes(0, 1), tells);
            Check.same("why", x.why(0, 1), tells ? 1 : EdgeTasks.NONE);
            Check.same("because", x.because(0, 1), EdgeTasks.NONE);
            Check.same("the other way round", x.precedes(1, 0), false);
            Check.same("not on the same machine", x.precedes(0, 2), false);
        }
        Check.sentence("Terms, rule 2, with the numbers exchanged");
        Check.same("equal", with(1, 0, 100, 400, 30, 0, 0, 150, 20).precedes(1, 0), false);
        Check.same("greater", with(1, 0, 101, 400, 30, 0, 0, 150, 20).precedes(1, 0), true);
    }

    private static void ruleThreeBefore() {
        Check.sentence("Terms, rule 3: F of T + D of T is greater than L of S");
        EdgeTasks x = with(1, 0, 3, 14, 4, 0, 3, 14, 4, 0, 3, 99, 3);
        Check.same("equal", x.precedes(0, 2) || x.precedes(1, 2), false);
        Check.same("because", x.because(0, 2), EdgeTasks.NONE);
        x.setDates(1, 3, 13);
        Check.same("L of S is the greatest", x.precedes(0, 2) || x.precedes(1, 2), false);
        x.setDates(0, 3, 13);
        Check.same("greater", x.precedes(0, 2) && x.precedes(1, 2), true);
        Check.same("because", x.because(0, 2), 3);
        bounds(x, 2, 11, 99);
        x.setDates(2, 2, 99);
        Check.same("F of T is the least, of i", x.precedes(0, 2) || x.precedes(1, 2), false);
        x.undo();
        x.setDates(0, 2, 13);
        Check.same("F of T is the least, of S", x.precedes(0, 2) || x.precedes(1, 2), false);
    }

    private static void ruleThreeBehind() {
        Check.sentence("Terms, rule 3: F of S + D of T is greater than L of T");
        EdgeTasks x = with(1, 0, 9, 20, 4, 0, 9, 20, 4, 0, 0, 20, 3);
        Check.same("equal", x.precedes(2, 0) || x.precedes(2, 1), false);
        Check.same("because", x.because(2, 0), EdgeTasks.NONE);
        x.setDates(1, 10, 20);
        Check.same("F of S is the least", x.precedes(2, 0) || x.precedes(2, 1), false);
        x.setDates(0, 10, 20);
        Check.same("greater", x.precedes(2, 0) && x.precedes(2, 1), true);
        Check.same("because", x.because(2, 0), 3);
        bounds(x, 2, 0, 12);
        x.setDates(2, 0, 21);
        Check.same("L of T is the greatest, of i", x.precedes(2, 0) || x.precedes(2, 1), false);
        x.undo();
        x.setDates(0, 10, 21);
        Check.same("L of T is the greatest, of S", x.precedes(2, 0) || x.precedes(2, 1), false);
    }

    private static EdgeTasks seven(int release, int due, boolean last) {
        EdgeTasks x = new EdgeTasks();
        for (int t = 0; t < 8; t++) {
            boolean other = t == (last ? 7 : 0);
            x.addTask(0, other ? 0 : release, other && last ? 400 : due, 2);
        }
        return x;
    }

    private static void ruleThreeOfSeven() {
        Check.sentence("Terms, rule 3: a set of one or more other tasks, of all seven");
        EdgeTasks x = seven(0, 16, true);
        Check.same("equal", x.precedes(0, 7), false);
        x = seven(0, 15, true);
        for (int t = 0; t < 7; t++) {
            Check.same("precedes(" + t + ", 7)", x.precedes(t, 7), true);
            Check.same("because(" + t + ", 7)", x.because(t, 7), 127);
        }
        bounds(x, 7, 14, 400);
        x = seven(199, 215, false);
        Check.same("equal", x.precedes(0, 7), false);
        x = seven(200, 215, false);
        for (int t = 1; t < 8; t++) {
            Check.same("precedes(0, " + t + ")", x.precedes(0, t), true);
            Check.same("because(0, " + t + ")", x.because(0, t), 254);
        }
        bounds(x, 0, 0, 201);
        Check.sentence("Terms, rule 3: a set of one or more other tasks, of one");
        Check.same("S is 0, i is 1", with(1, 0, 0, 7, 4, 0, 0, 99, 4).because(0, 1), 1);
        Check.same("S is 0, i is 1, equal", with(1, 0, 0, 8, 4, 0, 0, 99, 4).because(0, 1), EdgeTasks.NONE);
        Check.same("S is 1, i is 0", with(1, 0, 0, 99, 4, 0, 92, 99, 4).because(0, 1), 2);
        Check.same("S is 1, i is 0, equal", with(1, 0, 0, 99, 4, 0, 91, 99, 4).because(0, 1), EdgeTasks.NONE);
    }

    private static void ruleThreeOnOneMachine() {
        Check.sentence("Terms, rule 3: tasks on its machine");
        EdgeTasks x = with(2, 0, 0, 10, 4, 0, 0, 10, 4, 1, 0, 99, 3);
        Check.same("i on another machine", x.precedes(0, 2), false);
        x = with(2, 0, 0, 10, 4, 1, 0, 10, 4, 0, 0, 99, 3);
        Check.same("a part of S on another machine", x.precedes(0, 2), false);
        x = with(2, 1, 0, 10, 4, 1, 0, 10, 4, 1, 0, 99, 3);
        Check.same("all on the other machine", x.precedes(0, 2), true);
        Check.same("because", x.because(0, 2), 3);
    }

    private static void ruleFourBefore() {
        Check.sentence("Terms, rule 4: the first start of i is at least F of S + D of S");
        EdgeTasks x = Check.machines(2);
        for (int t = 0; t < 7; t++) {
            x.addTask(0, 0, 400, 50);
        }
        x.addTask(1, 0, 400, 50);
        for (int t = 0; t < 7; t++) {
            x.give(t, 7, true);
            bounds(x, 7, 50 * (t + 1), 400);
        }
        x.setDates(7, 0, 399);
        contradictory(x, "one less than that", true);
        Check.sentence("Terms, rule 4: F is the least first start, not the release");
        x = with(2, 1, 0, 99, 9, 0, 0, 99, 4, 0, 3, 99, 5, 1, 0, 99, 1);
        x.give(0, 1, true);
        x.give(1, 3, true);
        x.give(2, 3, true);
        bounds(x, 1, 9, 98);
        bounds(x, 3, 13, 99);
    }

    private static void ruleFourBehind() {
        Check.sentence("Terms, rule 4: the last end of i is at most L of S - D of S");
        EdgeTasks x = Check.machines(2);
        x.addTask(1, 0, 400, 50);
        for (int t = 1; t < 8; t++) {
            x.addTask(0, 0, 400, 50);
        }
        for (int t = 1; t < 8; t++) {
            x.give(0, t, true);
            bounds(x, 0, 0, 400 - 50 * t);
        }
        x.setDates(0, 1, 400);
        contradictory(x, "one less than that", true);
        Check.sentence("Terms, rule 4: L is the greatest last end, not the due date");
        x = with(2, 1, 0, 99, 1, 0, 0, 99, 4, 0, 0, 97, 5, 1, 0, 99, 9);
        x.give(1, 3, true);
        x.give(0, 1, true);
        x.give(0, 2, true);
        bounds(x, 1, 1, 90);
        bounds(x, 0, 0, 86);
    }

    private static void ruleFourOnOneMachine() {
        Check.sentence("Terms, rule 4: a set of tasks on one machine (any machine)");
        EdgeTasks x = with(3, 0, 0, 99, 5, 1, 0, 99, 4, 2, 0, 99, 6, 2, 0, 99, 3);
        x.give(0, 3, true);
        x.give(1, 3, true);
        bounds(x, 3, 5, 99);
        x.give(2, 3, true);
        bounds(x, 3, 6, 99);
        x = with(3, 2, 0, 99, 3, 0, 0, 99, 5, 1, 0, 99, 4, 2, 0, 99, 6);
        x.give(0, 1, true);
        x.give(0, 2, true);
        bounds(x, 0, 0, 94);
        x.give(0, 3, true);
        bounds(x, 0, 0, 93);
    }

    /** Over several machines each bound follows from the one before, up and down the numbers. */
    private static void asLongAsSomethingChanges() {
        Check.sentence("Terms, the rules are applied as long as one of them changes something");
        for (int machines = 1; machines <= 3; machines++) {
            EdgeTasks up = Check.machines(machines);
            EdgeTasks down = Check.machines(machines);
            for (int t = 0; t < 8; t++) {
                up.addTask(t % machines, 3, 399, 40 + t);
                down.addTask(t % machines, 3, 399, 40 + t);
            }
            for (int t = 0; t < 7; t++) {
                up.give(t, t + 1, true);
                down.give(t + 1, t, true);
            }
            for (int t = 0; t < 8; t++) {
                int before = 40 * t + t * (t - 1) / 2;
                int behind = 348 - before - 40 - t;
                bounds(up, t, 3 + before, 399 - behind);
                bounds(down, t, 3 + behind, 399 - before);
            }
        }
    }

    private static void contradictionOfATask() {
        Check.sentence("Terms, contradiction: the first start of a task + its duration is greater than its last end");
        contradictory(with(1, 0, 7, 12, 5), "equal", false);
        contradictory(with(1, 0, 7, 11, 5), "greater", true);
        contradictory(with(1, 0, 0, 1, 1), "least of all", false);
        contradictory(with(1, 0, 200, 250, 50), "greatest of all", false);
        contradictory(with(1, 0, 200, 249, 50), "greatest of all, greater", true);
        EdgeTasks x = Check.machines(3);
        for (int t = 0; t < 8; t++) {
            x.addTask(t % 3, 0, 400, 5);
        }
        x.setDates(7, 0, 4);
        contradictory(x, "of the last one of eight", true);
    }

    private static void contradictionOfItself() {
        Check.sentence("Terms, contradiction: a task precedes itself");
        EdgeTasks x = Check.machines(3);
        for (int t = 0; t < 8; t++) {
            x.addTask(t % 3, 0, 400, 1);
        }
        for (int t = 0; t < 7; t++) {
            x.give(t, t + 1, true);
        }
        contradictory(x, "a row of all eight", false);
        Check.same("the row closed", x.refutes(7, 0), true);
        Check.same("a part of it closed", x.refutes(4, 3), true);
        Check.same("along the row", x.refutes(0, 7), false);
    }

    private static void contradictionOfASet() {
        Check.sentence("Terms, contradiction: F of S + D of S is greater than L of S");
        contradictory(with(1, 0, 2, 11, 4, 0, 2, 11, 5), "equal", false);
        contradictory(with(1, 0, 2, 10, 4, 0, 2, 10, 5), "greater", true);
        contradictory(with(1, 0, 1, 10, 4, 0, 2, 10, 5), "F is the least", false);
        contradictory(with(1, 0, 2, 10, 4, 0, 2, 11, 5), "L is the greatest", false);
        contradictory(with(2, 0, 2, 10, 4, 1, 2, 10, 5), "on two machines", false);
        contradictory(with(3, 2, 2, 10, 4, 2, 2, 10, 5), "on the third machine", true);
        EdgeTasks x = new EdgeTasks();
        for (int t = 0; t < 8; t++) {
            x.addTask(0, 0, 400, 50);
        }
        contradictory(x, "all eight, equal", false);
        for (int t = 0; t < 8; t++) {
            x.setDates(t, 0, 399);
            contradictory(x, "all eight, " + t + " due earlier", t == 7);
        }
        for (int t = 0; t < 8; t++) {
            x.setDates(t, 1, 400);
            contradictory(x, "all eight, " + t + " released later", t == 7);
        }
    }

    private static void contradictionAtAnyTime() {
        Check.sentence("Terms, contradiction: at any time, after other rules too");
        EdgeTasks x = with(3, 0, 0, 20, 4, 1, 0, 20, 5, 2, 0, 12, 3);
        x.give(0, 1, true);
        x.give(1, 2, true);
        contradictory(x, "equal", false);
        x.setDates(2, 0, 11);
        contradictory(x, "greater", true);
        Check.sentence("Terms, contradiction: the reasoning ends without a result");
        Check.badState(x, "firstStart of a task that is not concerned", () -> x.firstStart(0));
        Check.same("value(5)", x.value(5), EdgeTasks.NONE);
    }

    /** The same tasks numbered in each way: what is told of them stays. */
    private static void anyOrder() {
        Check.sentence("Terms, the result does not depend on the order of the rules");
        int[][] tasks = {{0, 1, 10, 4}, {0, 2, 10, 4}, {0, 0, 30, 3}, {1, 4, 25, 6}};
        int[][] order = new int[24][];
        int count = 0;
        for (int k = 0; k < 256; k++) {
            int[] p = {k & 3, k >> 2 & 3, k >> 4 & 3, k >> 6};
            if ((1 << p[0] | 1 << p[1] | 1 << p[2] | 1 << p[3]) == 15) {
                order[count++] = p;
            }
        }
        for (int due = 24; due <= 25; due++) {
            for (int[] p : order) {
                EdgeTasks x = Check.machines(2);
                int[] number = new int[4];
                for (int k = 0; k < 4; k++) {
                    int[] t = tasks[p[k]];
                    number[p[k]] = x.addTask(t[0], t[1], p[k] == 3 ? due : t[2], t[3]);
                }
                x.give(number[2], number[3], true);
                bounds(x, number[2], 9, due - 6);
                bounds(x, number[3], 12, due);
                Check.same("open pairs", x.value(5), 1);
                Check.same("lower bound", x.lowerBound(), 18);
                Check.same("least due date", x.leastDue(number[3]), 18);
                x.setDates(number[3], 4, 17);
                contradictory(x, "one less", true);
            }
        }
    }

    private static void rowsKeepWhatIsGiven() {
        Check.sentence("Terms, a row in which no task comes before one that is given to precede it");
        EdgeTasks x = Check.machines(3);
        for (int t = 0; t < 8; t++) {
            x.addTask(t % 3, 0, 400, 50);
        }
        for (int t = 7; t > 0; t--) {
            x.give(t, t - 1, true);
        }
        for (int t = 0; t < 8; t++) {
            Check.same("place of " + t, x.inBest(t, 0), 7 - t);
            Check.same("start of " + t, x.inBest(t, 1), 50 * (7 - t));
        }
        Check.same("makespan", x.makespan(), 400);
        for (int seed = 0; seed < 20; seed++) {
            Check.same("drawn", x.drawn(seed, 1), 400);
        }
    }

    /** Whether the drawn row of two tasks begins with the task 1. */
    private static boolean beginsWithOne(int seed) {
        return (seed * 1103515245L + 12345L) % 2147483648L / 65536L % 2 == 1;
    }

    private static void startsOfARow() {
        Check.sentence("Terms, each task starts at least at the ends of all tasks of its machine before it in the row");
        EdgeTasks one = with(1, 0, 20, 400, 3, 0, 0, 400, 5);
        EdgeTasks two = with(2, 0, 20, 400, 3, 1, 0, 400, 5);
        boolean both = false;
        for (int seed = 0; seed < 40; seed++) {
            Check.same("a gap stays, seed " + seed, one.drawn(seed, 1), beginsWithOne(seed) ? 23 : 28);
            Check.same("two machines, seed " + seed, two.drawn(seed, 1), 23);
            both |= beginsWithOne(seed) != beginsWithOne(0);
        }
        Check.isTrue("only one of the rows was drawn", both);
        Check.sentence("Terms, each task starts at least at the ends of all tasks that are given to precede it");
        EdgeTasks x = with(3, 0, 1, 400, 30, 1, 2, 400, 20, 2, 3, 400, 10);
        x.give(0, 2, true);
        x.give(1, 2, true);
        Check.same("start", x.inBest(2, 1), 31);
        Check.same("makespan", x.makespan(), 41);
        Check.same("drawn", x.drawn(3, 1), 41);
        x.setDates(2, 32, 400);
        Check.same("at least its release", x.inBest(2, 1), 32);
    }

    private static void possiblePlans() {
        Check.sentence("Terms, a plan is possible if no task ends after its due date");
        EdgeTasks x = with(1, 0, 0, 9, 4, 0, 1, 9, 4);
        Check.same("makespan", x.makespan(), 8);
        x.setDates(0, 0, 4);
        x.setDates(1, 1, 8);
        Check.same("both just at it", x.makespan(), 8);
        x.setDates(1, 1, 7);
        Check.same("the last one too late", x.makespan(), EdgeTasks.NONE);
        Check.sentence("Terms, no possible plan, and no contradiction");
        x = with(1, 0, 5, 7, 2, 0, 2, 10, 2, 0, 2, 10, 2, 0, 2, 10, 2);
        contradictory(x, "no plan", false);
        Check.same("makespan", x.makespan(), EdgeTasks.NONE);
        Check.same("inBest", x.inBest(0, 0), EdgeTasks.NONE);
        Check.same("inBest", x.inBest(1, 1), EdgeTasks.NONE);
        Check.same("drawn", x.drawn(7, 50), EdgeTasks.NONE);
        bounds(x, 0, 5, 7);
        bounds(x, 1, 2, 10);
        Check.same("lowerBound", x.lowerBound(), 10);
        Check.same("decided", x.decided(), 0.0);
        x.setDates(3, 2, 11);
        Check.same("makespan with one more", x.makespan(), 11);
    }

    private static void makespans() {
        Check.sentence("Terms, the makespan is the greatest end");
        Check.same("of the first task", with(3, 0, 0, 99, 9, 1, 0, 99, 8, 2, 0, 99, 7).makespan(), 9);
        Check.same("of the second task", with(3, 0, 0, 99, 7, 1, 0, 99, 9, 2, 0, 99, 8).makespan(), 9);
        Check.same("of the last task", with(3, 0, 0, 99, 8, 1, 0, 99, 7, 2, 0, 99, 9).makespan(), 9);
        Check.same("drawn, of the first task", with(3, 0, 0, 99, 9, 1, 0, 99, 8, 2, 0, 99, 7).drawn(0, 1), 9);
        Check.sentence("Terms, the makespan is 0 without tasks");
        for (int machines = 1; machines <= 3; machines++) {
            Check.same("makespan", Check.machines(machines).makespan(), 0);
            Check.same("drawn", Check.machines(machines).drawn(999999, 50), 0);
        }
        Check.same("after begin", begun(with(1, 0, 0, 4, 5)).makespan(), 0);
    }

    private static EdgeTasks begun(EdgeTasks x) {
        x.begin(1);
        return x;
    }

    private static void places(EdgeTasks x, int... places) {
        for (int t = 0; t < places.length; t++) {
            Check.same("place of " + t, x.inBest(t, 0), places[t]);
        }
    }

    private static void bestOfSeveral() {
        Check.sentence("Terms, the best plan is the possible one with the least makespan");
        places(with(1, 0, 3, 99, 4, 0, 2, 99, 4, 0, 1, 99, 4), 1, 2, 0);
        Check.sentence("Terms, of several best plans the row that comes first, the lower number first");
        EdgeTasks x = Check.machines(3);
        for (int t = 0; t < 8; t++) {
            x.addTask(t % 3, 0, 400, 5);
        }
        places(x, 0, 1, 2, 3, 4, 5, 6, 7);
        Check.same("start of the last one", x.inBest(7, 1), 10);
        x.give(7, 0, true);
        x.setDates(7, 0, 5);
        places(x, 5, 6, 0, 1, 7, 2, 3, 4);
        Check.same("makespan", x.makespan(), 15);
        Check.sentence("Terms, tasks compared from the first place on");
        places(with(1, 0, 0, 99, 4, 0, 0, 99, 4, 0, 0, 4, 4), 1, 2, 0);
        places(with(1, 0, 0, 8, 4, 0, 0, 99, 4, 0, 0, 8, 4), 0, 2, 1);
    }

    private static void dominance(String what, EdgeTasks x, boolean forth, boolean back) {
        Check.same("dominates(0, 1), " + what, x.dominates(0, 1), forth);
        Check.same("dominates(1, 0), " + what, x.dominates(1, 0), back);
    }

    private static void dominance() {
        Check.sentence("Terms, dominance: on the same machine");
        dominance("the same", with(2, 1, 5, 50, 4, 1, 6, 60, 4), true, false);
        dominance("two", with(2, 0, 5, 50, 4, 1, 6, 60, 4), false, false);
        Check.sentence("Terms, dominance: both have the same duration");
        dominance("one more", with(1, 0, 5, 50, 5, 0, 6, 60, 4), false, false);
        dominance("one less", with(1, 0, 5, 50, 3, 0, 6, 60, 4), false, false);
        Check.sentence("Terms, dominance: the release of a is at most that of b");
        dominance("equal", with(1, 0, 5, 50, 4, 0, 5, 60, 4), true, false);
        dominance("one more", with(1, 0, 6, 50, 4, 0, 5, 60, 4), false, false);
        Check.sentence("Terms, dominance: the due date of a is at most that of b");
        dominance("equal", with(1, 0, 5, 50, 4, 0, 6, 50, 4), true, false);
        dominance("one more", with(1, 0, 5, 51, 4, 0, 6, 50, 4), false, false);
        Check.sentence("Terms, dominance: if all is the same, a is less than b");
        dominance("the same", with(1, 0, 5, 50, 4, 0, 5, 50, 4), true, false);
        dominance("an earlier release", with(1, 0, 6, 50, 4, 0, 5, 50, 4), false, true);
        dominance("an earlier due date", with(1, 0, 5, 51, 4, 0, 5, 50, 4), false, true);
        Check.sentence("Terms, dominance: another task");
        Check.same("itself", with(1, 0, 5, 50, 4).dominates(0, 0), false);
    }

    /** Two tasks alike on the machine 0, two others on the machine 1; the pairs are given. */
    private static EdgeTasks given(int... pairs) {
        EdgeTasks x = with(2, 0, 5, 300, 4, 0, 5, 300, 4, 1, 5, 300, 4, 1, 5, 300, 4);
        for (int k = 0; k + 1 < pairs.length; k += 2) {
            x.give(pairs[k], pairs[k + 1], true);
        }
        return x;
    }

    private static void dominanceOfSets() {
        Check.sentence("Terms, dominance: every task that is given to precede a is given to precede b, too");
        dominance("none before 0", given(2, 1), true, false);
        dominance("none before 1", given(2, 0), false, true);
        dominance("the same before both", given(2, 0, 2, 1), true, false);
        dominance("others", given(2, 0, 3, 1), false, false);
        dominance("only by a row", given(2, 0, 2, 3, 3, 1), false, false);
        Check.sentence("Terms, dominance: every task that b is given to precede is one that a is given to precede, too");
        dominance("none behind 1", given(0, 2), true, false);
        dominance("none behind 0", given(1, 2), false, true);
        dominance("the same behind both", given(0, 2, 1, 2), true, false);
        dominance("others", given(0, 2, 1, 3), false, false);
        dominance("only by a row", given(1, 2, 0, 3, 3, 2), false, false);
        Check.sentence("Terms, dominance: except b, and except a");
        dominance("0 before 1", given(0, 1), true, false);
        dominance("0 before 1, more behind 1", given(0, 1, 1, 2), false, false);
        dominance("0 before 1, more before 1", given(0, 1, 2, 1), true, false);
        Check.sentence("Terms, dominance: b is not given to precede a");
        dominance("1 before 0", given(1, 0), false, false);
        EdgeTasks x = given(1, 0);
        x.setDates(1, 5, 299);
        dominance("1 before 0, and due earlier", x, false, true);
        dominance("1 before 0 by a row only", given(1, 2, 2, 0), false, true);
        Check.sentence("Terms, dominance: all these sets are the same (a and b aside)");
        dominance("more before 1", given(2, 0, 2, 1, 3, 1), true, false);
        dominance("more before 0", given(2, 0, 2, 1, 3, 0), false, true);
        dominance("more behind 0", given(0, 2, 1, 2, 0, 3), true, false);
        dominance("more behind 1", given(0, 2, 1, 2, 1, 3), false, true);
        for (int a = 0; a < 8; a++) {
            for (int b = 0; b < 8; b++) {
                if (a != b) {
                    givenAside(a, b);
                }
            }
        }
    }

    /** Eight tasks that are alike but for a precedence of one before another one, which is aside for both. */
    private static void givenAside(int a, int b) {
        EdgeTasks x = new EdgeTasks();
        for (int t = 0; t < 8; t++) {
            x.addTask(0, 5, 50, 1);
        }
        Check.same("dominates(" + a + ", " + b + ")", x.dominates(a, b), a < b);
        x.give(a, b, true);
        Check.same("dominates(" + a + ", " + b + "), given", x.dominates(a, b), a < b);
        Check.same("dominates(" + b + ", " + a + "), given the other way round", x.dominates(b, a), false);
    }
}
