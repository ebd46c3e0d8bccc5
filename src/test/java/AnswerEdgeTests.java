/** Promises 1 to 22: the least and the greatest answers, NONE, and what is told without tasks and of 8 tasks. */
public final class AnswerEdgeTests {
    public static void main(String[] args) {
        newObject();
        noTasks();
        begin();
        addTask();
        setDates();
        give();
        giveDominance();
        giveDominanceThen();
        task();
        value();
        openPairs();
        boundsOfReasoning();
        precedes();
        whyFirstReason();
        becauseLeastNumber();
        slack();
        makespan();
        inBest();
        drawnLeastOfSome();
        drawnDraws();
        dominates();
        leastDue();
        lowerBound();
        refutes();
        decided();
        allInAContradiction();
        Check.end();
    }

    private static EdgeTasks with(int machines, int... tasks) {
        EdgeTasks x = Check.machines(machines);
        for (int k = 0; k + 3 < tasks.length; k += 4) {
            x.addTask(tasks[k], tasks[k + 1], tasks[k + 2], tasks[k + 3]);
        }
        return x;
    }

    private static EdgeTasks eight(int machines, int due, int duration) {
        EdgeTasks x = Check.machines(machines);
        for (int t = 0; t < 8; t++) {
            x.addTask(t % machines, 0, due, duration);
        }
        return x;
    }

    private static void newObject() {
        Check.sentence("Promise 1: one machine without tasks");
        EdgeTasks x = new EdgeTasks();
        Check.same("machines", x.value(0), 1);
        Check.same("tasks", x.value(1), 0);
        Check.same("given", x.value(2), 0);
        Check.same("text", x.clearText(), 0);
        Check.badState(x, "undo", () -> x.undo());
        EdgeTasks other = new EdgeTasks();
        other.addTask(0, 0, 9, 1);
        other.append('x');
        Check.same("another object's tasks", x.value(1), 0);
        Check.same("another object's text", x.clearText(), 0);
        Check.same("NONE", EdgeTasks.NONE, -1);
    }

    private static void noTasks() {
        Check.sentence("Terms, no tasks at all");
        for (int machines = 1; machines <= 3; machines++) {
            EdgeTasks x = Check.machines(machines);
            long[] values = {machines, 0, 0, 0, 0, 0};
            for (int what = 0; what <= 5; what++) {
                Check.same("value(" + what + ")", x.value(what), values[what]);
            }
            Check.same("makespan", x.makespan(), 0);
            Check.same("drawn, least", x.drawn(0, 1), 0);
            Check.same("drawn, greatest", x.drawn(999999, 50), 0);
            Check.same("lowerBound", x.lowerBound(), 0);
            Check.same("decided", x.decided(), 1.0);
            Check.same("digest", x.digest(), Check.hash(0, machines, 0, 0, 0, 0, 0, 1));
            Check.same("giveDominance", x.giveDominance(), 0);
            Check.same("carryOut", x.carryOut(), 0);
            Check.same("saved states", Check.undoAll(x), 3);
        }
    }

    private static void begin() {
        Check.sentence("Promise 2: returns the tasks that there were");
        EdgeTasks x = new EdgeTasks();
        Check.same("none", x.begin(1), 0);
        for (int t = 1; t <= 8; t++) {
            x.addTask(0, 0, 9, 1);
            Check.same("some", x.begin(1), t);
            x.undo();
        }
        Check.sentence("Promise 2: begins with other machines, without tasks");
        x.give(7, 0, true);
        x.begin(3);
        Check.same("machines", x.value(0), 3);
        Check.same("tasks", x.value(1), 0);
        Check.same("given", x.value(2), 0);
        for (int t = 0; t < 8; t++) {
            x.addTask(2, 0, 9, 1);
            Check.same("given to a new task", x.task(t, 4) | x.task(t, 5), 0);
        }
    }

    private static void addTask() {
        Check.sentence("Promise 3: returns its number");
        EdgeTasks x = Check.machines(3);
        for (int t = 0; t < 8; t++) {
            Check.same("number", x.addTask(2 - t % 3, 200 - t, 400 - t, 50 - t), t);
            long[] due = {2 - t % 3, 200 - t, 400 - t, 50 - t, 0, 0};
            for (int what = 0; what <= 5; what++) {
                Check.same("task(" + t + ", " + what + ")", x.task(t, what), due[what]);
            }
        }
        x.undo();
        Check.same("number behind undo", x.addTask(0, 0, 1, 1), 7);
        x.begin(1);
        Check.same("number behind begin", x.addTask(0, 0, 1, 1), 0);
    }

    private static void setDates() {
        Check.sentence("Promise 4: returns the due date minus the release before");
        EdgeTasks x = with(1, 0, 0, 400, 50, 0, 200, 1, 50, 0, 7, 7, 1);
        Check.same("greatest", x.setDates(0, 200, 1), 400);
        Check.same("least", x.setDates(1, 0, 400), -199);
        Check.same("equal", x.setDates(2, 8, 9), 0);
        Check.same("then, the least", x.setDates(0, 1, 2), -199);
        Check.same("then, the greatest", x.setDates(1, 1, 2), 400);
        Check.same("then, one", x.setDates(2, 1, 2), 1);
        Check.sentence("Promise 4: sets the release and the due date of a task, nothing else");
        x = with(2, 1, 3, 30, 4, 1, 5, 50, 6);
        x.give(0, 1, true);
        x.setDates(0, 200, 400);
        long[][] due = {{1, 200, 400, 4, 0, 2}, {1, 5, 50, 6, 1, 0}};
        for (int t = 0; t < 2; t++) {
            for (int what = 0; what <= 5; what++) {
                Check.same("task(" + t + ", " + what + ")", x.task(t, what), due[t][what]);
            }
        }
    }

    private static void give() {
        Check.sentence("Promise 5: returns the given precedences then");
        EdgeTasks x = eight(3, 400, 1);
        int count = 0;
        for (int a = 7; a >= 0; a--) {
            for (int b = 0; b < a; b++) {
                count++;
                Check.same("given", x.give(a, b, true), count);
            }
        }
        Check.same("greatest", x.value(2), 28);
        for (int a = 7; a >= 0; a--) {
            for (int b = 0; b < a; b++) {
                count--;
                Check.same("taken away", x.give(a, b, false), count);
                Check.same("those that precede " + b + " still", x.task(b, 4), (1 << a) - (2 << b));
                Check.same("those that " + a + " precedes still", x.task(a, 5), (1 << a) - (2 << b));
            }
        }
        Check.same("none", x.value(2), 0);
    }

    private static void giveDominance() {
        Check.sentence("Promise 6: returns the precedences that were given by it");
        EdgeTasks x = eight(1, 400, 1);
        Check.same("all", x.giveDominance(), 28);
        for (int t = 0; t < 8; t++) {
            Check.same("before " + t, x.task(t, 4), (1 << t) - 1);
            Check.same("behind " + t, x.task(t, 5), 255 - ((2 << t) - 1));
        }
        Check.same("none any more", x.giveDominance(), 0);
        x = with(1, 0, 0, 99, 4);
        Check.same("one task", x.giveDominance(), 0);
        x = with(2, 0, 0, 99, 4, 1, 0, 99, 4);
        Check.same("two machines", x.giveDominance(), 0);
        Check.sentence("Promise 6: neither a is given to precede b");
        x = with(1, 0, 0, 99, 4, 0, 0, 99, 4, 0, 0, 99, 4);
        x.give(0, 1, true);
        Check.same("only the others", x.giveDominance(), 2);
        Check.same("given", x.value(2), 3);
        Check.sentence("Promise 6: nor there is a row of given precedences from b to a");
        x = with(2, 0, 0, 99, 4, 0, 0, 99, 4, 1, 0, 99, 5);
        x.give(1, 2, true);
        x.give(2, 0, true);
        Check.same("against a row", x.giveDominance(), 1);
        Check.same("along the row", x.task(1, 5), 5);
        Check.same("not against it", x.task(0, 5), 0);
    }

    /** 1 and 2 are alike but for what 2 is given, so the first pair decides about the next ones. */
    private static void giveDominanceThen() {
        Check.sentence("Promise 6: in ascending order of a, then of b, if a dominates b then");
        EdgeTasks x = with(1, 0, 0, 99, 4, 0, 0, 99, 4, 0, 0, 99, 4);
        x.give(2, 0, true);
        Check.same("2 dominates 1 at first", x.dominates(2, 1), true);
        Check.same("1 dominates 0 at first", x.dominates(1, 0), true);
        Check.same("given by dominance", x.giveDominance(), 2);
        Check.same("1 before 0 and 2", x.task(1, 5), 5);
        Check.same("2 before 0 still", x.task(2, 5), 1);
        Check.same("0 before none", x.task(0, 5), 0);
        Check.sentence("Promise 6: in a contradiction, too");
        x = with(1, 0, 0, 3, 4, 0, 0, 3, 4);
        Check.same("given by dominance", x.giveDominance(), 1);
    }

    private static void task() {
        Check.sentence("Promise 7: the set of tasks, bit t for the task t");
        EdgeTasks x = eight(3, 400, 1);
        for (int t = 1; t < 8; t++) {
            x.give(0, t, true);
        }
        Check.same("all others behind 0", x.task(0, 5), 254);
        Check.same("none before 0", x.task(0, 4), 0);
        Check.same("0 before 7", x.task(7, 4), 1);
        x = eight(3, 400, 1);
        for (int t = 0; t < 7; t++) {
            x.give(7, t, true);
        }
        Check.same("all others behind 7", x.task(7, 5), 127);
        Check.same("7 before 0", x.task(0, 4), 128);
        Check.same("7 before 6", x.task(6, 4), 128);
        Check.sentence("Promise 7: given itself, not by a row");
        x = with(1, 0, 0, 99, 1, 0, 0, 99, 1, 0, 0, 99, 1);
        x.give(0, 1, true);
        x.give(1, 2, true);
        Check.same("behind 0", x.task(0, 5), 2);
        Check.same("before 2", x.task(2, 4), 2);
    }

    private static void value() {
        Check.sentence("Promise 8: the pairs of tasks on the same machine");
        int[] pairs = {28, 12, 7};
        for (int machines = 1; machines <= 3; machines++) {
            EdgeTasks x = eight(machines, 400, 1);
            Check.same("machines", x.value(0), machines);
            Check.same("tasks", x.value(1), 8);
            Check.same("pairs", x.value(3), pairs[machines - 1]);
            Check.same("contradiction", x.value(4), 0);
            Check.same("open pairs", x.value(5), pairs[machines - 1]);
        }
        Check.same("one task", with(1, 0, 0, 9, 1).value(3), 0);
        Check.same("two tasks", with(1, 0, 0, 9, 1, 0, 0, 9, 1).value(3), 1);
        Check.same("two machines", with(2, 0, 0, 9, 1, 1, 0, 9, 1).value(3), 0);
        Check.sentence("Promise 8: 1 if there is a contradiction, otherwise 0");
        Check.same("fits", with(1, 0, 0, 9, 9).value(4), 0);
        Check.same("does not fit", with(1, 0, 0, 9, 10).value(4), 1);
    }

    private static void openPairs() {
        Check.sentence("Promise 8: the pairs of which none precedes the other one by reasoning");
        EdgeTasks x = eight(1, 400, 50);
        Check.same("all open", x.value(5), 28);
        for (int t = 0; t < 7; t++) {
            x.give(t + 1, t, true);
        }
        Check.same("none open", x.value(5), 0);
        x = with(2, 0, 0, 99, 4, 0, 0, 99, 4, 1, 0, 99, 4);
        x.give(0, 2, true);
        Check.same("the order of two machines is no pair", x.value(5), 1);
        x.give(2, 1, true);
        Check.same("ordered over another machine", x.value(5), 0);
        Check.sentence("Promise 8: NONE if there is a contradiction");
        Check.same("with pairs", with(1, 0, 0, 3, 4, 0, 0, 99, 4).value(5), EdgeTasks.NONE);
        Check.same("without pairs", with(1, 0, 0, 3, 4).value(5), EdgeTasks.NONE);
    }

    private static void boundsOfReasoning() {
        Check.sentence("Promises 9 and 10: the first start and the last end by reasoning");
        EdgeTasks x = with(1, 0, 0, 1, 1, 0, 200, 250, 50, 0, 0, 400, 1);
        Check.same("least first start", x.firstStart(0), 0);
        Check.same("least last end", x.lastEnd(0), 1);
        Check.same("first start", x.firstStart(1), 200);
        Check.same("last end", x.lastEnd(1), 250);
        Check.same("first start behind 0", x.firstStart(2), 1);
        Check.same("greatest last end", x.lastEnd(2), 400);
        x = eight(1, 400, 50);
        for (int t = 0; t < 7; t++) {
            x.give(t, t + 1, true);
        }
        Check.same("greatest first start", x.firstStart(7), 350);
        Check.same("least last end of eight", x.lastEnd(0), 50);
    }

    private static void precedes() {
        Check.sentence("Promise 11: false if they are the same");
        EdgeTasks x = eight(1, 400, 50);
        for (int t = 0; t < 7; t++) {
            x.give(t, t + 1, true);
        }
        for (int t = 0; t < 8; t++) {
            Check.same("precedes(" + t + ", " + t + ")", x.precedes(t, t), false);
            Check.same("why(" + t + ", " + t + ")", x.why(t, t), EdgeTasks.NONE);
            Check.same("because(" + t + ", " + t + ")", x.because(t, t), EdgeTasks.NONE);
        }
        Check.same("first and last", x.precedes(0, 7), true);
        Check.same("last and first", x.precedes(7, 0), false);
    }

    private static void whyFirstReason() {
        Check.sentence("Promise 12: of several reasons, the first one is told");
        EdgeTasks x = with(1, 0, 0, 5, 5, 0, 0, 50, 5, 0, 0, 50, 5);
        Check.same("rule 2 and rule 3", x.why(0, 1), 1);
        Check.same("because", x.because(0, 1), 1);
        x.give(0, 1, true);
        Check.same("given, rule 2 and rule 3", x.why(0, 1), 0);
        x.give(1, 2, true);
        Check.same("rule 1, rule 2 and rule 3", x.why(0, 2), 1);
        Check.sentence("Promise 12: given itself, not only by a row of given precedences");
        x.setDates(0, 0, 50);
        Check.same("by a row", x.why(0, 2), 3);
        Check.same("itself", x.why(0, 1), 0);
        Check.sentence("Promise 12: NONE if a does not precede b");
        Check.same("the other way round", x.why(2, 0), EdgeTasks.NONE);
        Check.same("not ordered", with(1, 0, 0, 50, 5, 0, 0, 50, 5).why(0, 1), EdgeTasks.NONE);
        Check.sentence("Promise 12: first starts and last ends as they are at the end of the reasoning");
        x = with(1, 0, 0, 14, 4, 0, 3, 14, 4, 0, 3, 14, 4);
        Check.same("told by a set at first, by rule 2 at the end", x.why(0, 1), 1);
        Check.same("told by 6 at first, by 1 at the end", x.because(0, 1), 1);
    }

    private static void becauseLeastNumber() {
        Check.sentence("Promise 13: of several sets the least number");
        Check.same("a in S, of 1 and 2", with(1, 0, 0, 5, 5, 0, 40, 50, 5).because(0, 1), 1);
        Check.same("b in S, of 1 and 2", with(1, 0, 41, 50, 5, 0, 0, 5, 5).because(1, 0), 1);
        Check.same("b in S, but equal, so 2", with(1, 0, 40, 50, 5, 0, 0, 5, 5).because(1, 0), 2);
        Check.same("the only one, a in S", with(1, 0, 0, 99, 5, 0, 0, 5, 5).because(1, 0), 2);
        Check.same("the only one, b in S", with(1, 0, 94, 99, 5, 0, 0, 99, 5).because(1, 0), 1);
        EdgeTasks x = with(1, 0, 0, 99, 3, 0, 1, 10, 4, 0, 2, 10, 4, 0, 0, 99, 3);
        Check.same("of 6, 7 and more", x.because(1, 0), 6);
        Check.same("of 6, 14 and more", x.because(2, 3), 6);
        Check.sentence("Promise 13: with a in S and b as the task i, or with b in S and a as the task i");
        x = with(1, 0, 92, 99, 3, 0, 92, 99, 3, 0, 0, 99, 5);
        Check.same("not the set without b, to b", x.because(2, 1), 2);
        Check.same("the set with b, to b", x.because(2, 0), 1);
        x = with(1, 0, 0, 7, 3, 0, 0, 7, 3, 0, 0, 99, 5);
        Check.same("not the set without a, from a", x.because(1, 2), 2);
        Check.same("the set with a, from a", x.because(0, 2), 1);
        Check.sentence("Promise 13: of tasks on its machine");
        x = with(2, 1, 0, 10, 9, 0, 1, 10, 4, 0, 0, 99, 3, 0, 2, 10, 4);
        Check.same("a set before, without the other machine's task", x.because(1, 2), 10);
        x = with(2, 1, 0, 20, 9, 0, 10, 20, 4, 0, 0, 20, 5, 0, 10, 20, 4);
        Check.same("a set behind, without the other machine's task", x.because(2, 1), 10);
        Check.sentence("Promise 13: NONE if rule 3 does not tell so by any set");
        x = with(2, 0, 0, 99, 5, 0, 0, 99, 5, 1, 0, 99, 5);
        x.give(0, 1, true);
        x.give(0, 2, true);
        Check.same("given", x.because(0, 1), EdgeTasks.NONE);
        Check.same("given, two machines", x.because(0, 2), EdgeTasks.NONE);
        Check.same("not ordered", x.because(1, 2), EdgeTasks.NONE);
        Check.same("two machines, though it would tell", with(2, 0, 0, 5, 5, 1, 0, 99, 5).because(0, 1),
                EdgeTasks.NONE);
    }

    private static void slack() {
        Check.sentence("Promise 14: its last end minus its first start minus its duration");
        Check.same("least", with(1, 0, 200, 250, 50).slack(0), 0);
        Check.same("greatest", with(1, 0, 0, 400, 1).slack(0), 399);
        EdgeTasks x = with(1, 0, 0, 99, 4, 0, 0, 99, 5);
        x.give(0, 1, true);
        Check.same("by reasoning", x.slack(0), 90);
        Check.same("by reasoning", x.slack(1), 90);
    }

    private static void makespan() {
        Check.sentence("Promise 15: the makespan of the best plan");
        Check.same("least with a task", with(1, 0, 0, 1, 1).makespan(), 1);
        Check.same("greatest", eight(1, 400, 50).makespan(), 400);
        Check.same("eight on two machines", eight(2, 400, 50).makespan(), 200);
        Check.same("eight on three machines", eight(3, 400, 50).makespan(), 150);
        Check.sentence("Promise 15: NONE if no plan is possible");
        Check.same("eight, one too early", with(1, 0, 0, 49, 50).makespan(), EdgeTasks.NONE);
        EdgeTasks x = eight(1, 399, 50);
        Check.same("eight, all too early", x.makespan(), EdgeTasks.NONE);
        x.setDates(5, 0, 400);
        Check.same("eight, the sixth one last", x.makespan(), 400);
        Check.same("its place", x.inBest(5, 0), 7);
    }

    private static void inBest() {
        Check.sentence("Promise 16: its place in the row, its start");
        EdgeTasks x = eight(1, 400, 50);
        for (int t = 0; t < 8; t++) {
            Check.same("place of " + t, x.inBest(t, 0), t);
            Check.same("start of " + t, x.inBest(t, 1), 50 * t);
        }
        x.setDates(0, 200, 400);
        Check.same("place of 0", x.inBest(0, 0), 4);
        Check.same("start of 0", x.inBest(0, 1), 200);
        Check.sentence("Promise 16: NONE if no plan is possible");
        x.setDates(0, 200, 249);
        for (int t = 0; t < 8; t++) {
            Check.same("place of " + t, x.inBest(t, 0), EdgeTasks.NONE);
            Check.same("start of " + t, x.inBest(t, 1), EdgeTasks.NONE);
        }
        x.undo();
        Check.same("start of 0 again", x.inBest(0, 1), 200);
    }

    private static void drawnLeastOfSome() {
        Check.sentence("Promise 17: the least makespan of the possible plans of these rows");
        EdgeTasks x = with(1, 0, 20, 400, 3, 0, 0, 400, 5);
        EdgeTasks early = with(1, 0, 20, 400, 3, 0, 0, 20, 5);
        for (int seed = 0; seed < 30; seed++) {
            long drawn = seed;
            int least = 28;
            int good = EdgeTasks.NONE;
            for (int rows = 1; rows <= 50; rows++) {
                drawn = next(drawn);
                if (drawn / 65536 % 2 == 1) {
                    least = 23;
                    good = 23;
                }
                drawn = next(drawn);
                Check.same("drawn(" + seed + ", " + rows + ")", x.drawn(seed, rows), least);
                Check.same("drawn, one due early " + seed + ", " + rows, early.drawn(seed, rows), good);
            }
        }
        Check.sentence("Promise 17: NONE if none of them is possible");
        Check.same("drawn", with(1, 0, 0, 9, 5, 0, 0, 9, 5).drawn(0, 50), EdgeTasks.NONE);
    }

    private static long next(long x) {
        return (x * 1103515245L + 12345L) % 2147483648L;
    }

    /** The rows are drawn here once more; releases and durations differ, so that a makespan tells rows apart. */
    private static void drawnDraws() {
        Check.sentence("Promise 17: of the tasks whose given ones are in the row, the one with the index");
        for (int seed = 999900; seed <= 999999; seed++) {
            EdgeTasks x = Check.machines(1);
            for (int t = 0; t < 8; t++) {
                x.addTask(0, 25 * t, 400, 1 + 3 * t);
            }
            x.give(7, 0, true);
            x.give(3, 7, true);
            x.give(3, 5, true);
            int[] ahead = {128, 0, 0, 0, 0, 8, 0, 8};
            long drawn = seed;
            int taken = 0;
            int end = 0;
            for (int k = 0; k < 8; k++) {
                drawn = next(drawn);
                int[] ready = new int[8];
                int count = 0;
                for (int t = 0; t < 8; t++) {
                    if ((taken >> t & 1) == 0 && (ahead[t] & ~taken) == 0) {
                        ready[count++] = t;
                    }
                }
                int task = ready[(int) (drawn / 65536 % count)];
                taken |= 1 << task;
                end = Math.max(end, 25 * task) + 1 + 3 * task;
            }
            Check.same("drawn(" + seed + ", 1)", x.drawn(seed, 1), end);
        }
    }

    private static void dominates() {
        Check.sentence("Promise 18: whether a dominates b");
        EdgeTasks x = eight(1, 400, 1);
        for (int a = 0; a < 8; a++) {
            for (int b = 0; b < 8; b++) {
                Check.same("dominates(" + a + ", " + b + ")", x.dominates(a, b), a < b);
            }
        }
        Check.same("gives nothing", x.value(2), 0);
    }

    private static void leastDue() {
        Check.sentence("Promise 19: the least due date of a task, 1 to 400");
        Check.same("least", with(1, 0, 0, 400, 1).leastDue(0), 1);
        EdgeTasks x = eight(1, 400, 50);
        for (int t = 0; t < 8; t++) {
            Check.same("of eight", x.leastDue(t), 50);
        }
        for (int t = 0; t < 7; t++) {
            x.give(t, t + 1, true);
        }
        Check.same("greatest", x.leastDue(7), 400);
        Check.same("of the first one", x.leastDue(0), 50);
        Check.same("later than its due date is", with(1, 0, 5, 1, 9).leastDue(0), 14);
        Check.sentence("Promise 19: NONE if there is none");
        x.setDates(3, 151, 400);
        Check.same("401 would be needed", x.leastDue(7), EdgeTasks.NONE);
        x.setDates(3, 150, 400);
        Check.same("400 is enough", x.leastDue(7), 400);
        x = with(1, 0, 0, 3, 4, 0, 0, 99, 4);
        Check.same("a contradiction of another task", x.leastDue(1), EdgeTasks.NONE);
        Check.same("a contradiction of its own", x.leastDue(0), 4);
        Check.sentence("Promise 19: all else as it is");
        Check.same("due dates", x.task(0, 2) + x.task(1, 2), 102);
        Check.same("contradiction", x.value(4), 1);
        Check.same("saved states", Check.undoAll(x), 3);
    }

    private static void lowerBound() {
        Check.sentence("Promise 20: the least number, 0 to 400");
        Check.same("least", Check.machines(1).lowerBound(), 0);
        Check.same("least with a task", with(1, 0, 0, 400, 1).lowerBound(), 1);
        Check.same("greatest", eight(1, 400, 50).lowerBound(), 400);
        Check.sentence("Promise 20: every due date that is greater than it was set to it");
        EdgeTasks x = with(1, 0, 0, 5, 5, 0, 0, 400, 4);
        Check.same("a due date that stays", x.lowerBound(), 9);
        Check.same("a due date equal to it", with(1, 0, 0, 9, 5, 0, 0, 9, 4).lowerBound(), 9);
        Check.same("due dates as they are", x.task(1, 2), 400);
        Check.sentence("Promise 20: NONE if there would be a contradiction even with 400");
        Check.same("a task that does not fit", with(1, 0, 0, 4, 5).lowerBound(), EdgeTasks.NONE);
        x = eight(1, 400, 50);
        for (int t = 0; t < 8; t++) {
            x.setDates(t, 1, 400);
        }
        Check.same("401 would be needed", x.lowerBound(), EdgeTasks.NONE);
    }

    private static void refutes() {
        Check.sentence("Promise 21: true if a and b are the same");
        EdgeTasks x = with(2, 0, 0, 99, 4, 0, 0, 99, 4, 1, 0, 99, 4);
        for (int t = 0; t < 3; t++) {
            Check.same("refutes(" + t + ", " + t + ")", x.refutes(t, t), true);
        }
        Check.sentence("Promise 21: whether there would be a contradiction");
        Check.same("there is room", x.refutes(0, 1), false);
        x.give(0, 1, true);
        Check.same("given already", x.refutes(0, 1), false);
        Check.same("against a given one", x.refutes(1, 0), true);
        Check.same("just fits", with(2, 0, 0, 9, 4, 1, 0, 9, 5).refutes(0, 1), false);
        Check.same("one less", with(2, 0, 0, 8, 4, 1, 0, 8, 5).refutes(0, 1), true);
        Check.same("nothing given", x.value(2), 1);
        Check.same("saved states", Check.undoAll(x), 4);
        Check.same("in a contradiction", with(2, 0, 0, 3, 4, 0, 0, 99, 4, 1, 0, 99, 4).refutes(1, 2), true);
    }

    private static void decided() {
        Check.sentence("Promise 22: 1.0 without such pairs");
        Check.same("no tasks", Check.machines(1).decided(), 1.0);
        Check.same("one task", with(1, 0, 0, 9, 1).decided(), 1.0);
        Check.same("one task per machine", with(3, 0, 0, 9, 1, 1, 0, 9, 1, 2, 0, 9, 1).decided(), 1.0);
        Check.sentence("Promise 22: their number divided by the number of all such pairs");
        Check.same("none of one", with(1, 0, 0, 9, 1, 0, 0, 9, 1).decided(), 0.0);
        Check.same("one of one", with(1, 0, 0, 1, 1, 0, 0, 9, 1).decided(), 1.0);
        EdgeTasks x = eight(1, 400, 1);
        for (int t = 1; t < 8; t++) {
            x.give(0, t, true);
            Check.same("some of 28", x.decided(), t / 28.0);
        }
    }

    private static void allInAContradiction() {
        Check.sentence("Terms, a contradiction: what is answered all the same");
        EdgeTasks x = with(1, 0, 0, 3, 4, 0, 0, 99, 4);
        Check.same("makespan", x.makespan(), EdgeTasks.NONE);
        Check.same("inBest", x.inBest(1, 0), EdgeTasks.NONE);
        Check.same("inBest", x.inBest(1, 1), EdgeTasks.NONE);
        Check.same("drawn", x.drawn(0, 50), EdgeTasks.NONE);
        Check.same("dominates", x.dominates(0, 1), true);
        Check.same("leastDue", x.leastDue(0), 4);
        Check.same("lowerBound", x.lowerBound(), EdgeTasks.NONE);
        Check.same("refutes", x.refutes(0, 1), true);
        Check.same("refutes", x.refutes(1, 1), true);
        Check.same("value(3)", x.value(3), 1);
        Check.same("task", x.task(0, 2), 3);
        Check.same("give", x.give(0, 1, true), 1);
        Check.same("setDates", x.setDates(0, 0, 4), 3);
        Check.same("no contradiction any more", x.value(4), 0);
        Check.same("makespan then", x.makespan(), 8);
    }
}
