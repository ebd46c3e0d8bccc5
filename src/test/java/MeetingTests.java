/**
 * Where several promises meet: every call in every kind of state (behind a refused call, undo, begin, carryOut, in
 * a contradiction, without a possible plan), long runs on one object, and several objects side by side.
 */
public final class MeetingTests {
    /** Each state: its name, then the calls that lead to it; what begins with a sign " is appended to the text. */
    private static final String[][] STATES = {
        {"a new object"},
        {"three machines without tasks", "begin(3)"},
        {"one task", "addTask(0, 3, 40, 5)"},
        {"tasks on two machines", "begin(2)", "addTask(0, 0, 20, 5)", "addTask(0, 2, 9, 4)", "addTask(1, 3, 30, 6)",
            "give(0, 2, true)"},
        {"tasks that are alike", "addTask(0, 5, 50, 4)", "addTask(0, 5, 50, 4)", "addTask(0, 5, 50, 4)"},
        {"behind giveDominance", "addTask(0, 5, 50, 4)", "addTask(0, 5, 50, 4)", "addTask(0, 5, 50, 4)",
            "giveDominance()"},
        {"a contradiction by dates", "addTask(0, 10, 12, 5)", "addTask(0, 0, 40, 5)", "addTask(0, 0, 40, 5)"},
        {"a contradiction by a set", "addTask(0, 0, 9, 5)", "addTask(0, 0, 9, 5)"},
        {"a contradiction by a given precedence", "begin(2)", "addTask(0, 0, 9, 5)", "addTask(1, 0, 9, 5)",
            "give(1, 0, true)"},
        {"no possible plan, and no contradiction", "addTask(0, 5, 7, 2)", "addTask(0, 2, 10, 2)",
            "addTask(0, 2, 10, 2)", "addTask(0, 2, 10, 2)"},
        {"behind begin", "addTask(0, 0, 9, 5)", "addTask(0, 0, 9, 5)", "give(1, 0, true)", "begin(2)"},
        {"behind undo", "addTask(0, 0, 20, 5)", "addTask(0, 1, 20, 6)", "give(1, 0, true)", "setDates(1, 9, 9)",
            "undo()"},
        {"behind all that can be undone", "addTask(0, 0, 20, 5)", "addTask(0, 1, 20, 6)", "give(1, 0, true)",
            "begin(3)", "undo()", "undo()", "undo()", "undo()"},
        {"behind undo of a contradiction", "addTask(0, 0, 20, 5)", "addTask(0, 1, 20, 6)", "setDates(0, 0, 1)",
            "undo()"},
        {"behind carryOut", "\"t0:0-20*5;t0:1-20*6;p10;", "carryOut()"},
        {"behind carryOut up to an order that would throw", "\"t0:0-20*5;t0:1-20*6;p10;p01;t0:9-99*9;", "carryOut()"},
        {"behind carryOut of a contradiction", "\"t0:0-9*5;t0:1-9*6;", "carryOut()"},
        {"behind undo of carryOut", "addTask(0, 0, 20, 5)", "\"t0:1-20*6;p10;", "carryOut()", "undo()"},
        {"a syntax error", "addTask(0, 0, 20, 5)", "addTask(0, 1, 20, 6)", "\"p10;t0:201", "carryOut()"},
        {"a full text", "\"t0:000-009*01;t0:00-9*02;p01;q01;p01;q01;p01;q01;p01;q01;p01;q01;p01;q01;p01;q01;p01;q01;"
            + "p01;q01;p01"},
        {"eight tasks in a row", "addTask(0, 0, 400, 50)", "addTask(0, 0, 400, 50)", "addTask(0, 0, 400, 50)",
            "addTask(0, 0, 400, 50)", "addTask(0, 0, 400, 50)", "addTask(0, 0, 400, 50)", "addTask(0, 0, 400, 50)",
            "addTask(0, 0, 400, 49)", "\"p01;p12;p23;p34;p45;p56;", "carryOut()"},
        {"behind refused calls", "addTask(0, 0, 20, 5)", "addTask(1, 0, 20, 5)", "addTask(0, 1, 20, 6)",
            "give(0, 0, true)", "give(0, 2, true)", "setDates(1, 0, 0)", "begin(0)", "append(128)", "value(6)"},
    };

    private static final String[] CHANGES = {
        "begin(1)", "begin(3)", "begin(0)", "begin(4)",
        "addTask(0, 1, 30, 4)", "addTask(1, 2, 40, 3)", "addTask(0, 9, 10, 5)", "addTask(3, 0, 9, 1)",
        "addTask(-1, 0, 9, 1)", "addTask(0, 201, 9, 1)", "addTask(0, 0, 401, 1)", "addTask(0, 0, 9, 51)",
        "setDates(0, 0, 400)", "setDates(0, 5, 6)", "setDates(1, 3, 17)", "setDates(8, 0, 9)", "setDates(0, -1, 9)",
        "setDates(0, 0, 0)",
        "give(0, 1, true)", "give(1, 0, true)", "give(0, 1, false)", "give(1, 0, false)", "give(0, 0, true)",
        "give(0, 2, true)", "give(2, 0, true)", "give(1, 2, true)", "give(2, 1, true)", "give(2, 1, false)",
        "give(8, 0, false)", "giveDominance()",
        "append('x')", "append('p')", "append('5')", "append(';')", "append(-1)", "append(128)",
        "clearText()", "carryOut()", "undo()",
    };

    private static final String[] QUESTIONS = {
        "task(0, 5)", "task(0, 6)", "task(-1, 6)", "value(4)", "value(5)", "value(-1)", "firstStart(1)", "lastEnd(0)",
        "lastEnd(8)", "precedes(0, 1)", "why(1, 0)", "because(1, 0)", "because(0, 8)", "slack(0)", "slack(-1)",
        "makespan()", "inBest(1, 0)", "inBest(0, 2)", "inBest(8, 2)", "drawn(5, 3)", "drawn(0, 0)", "drawn(1000000, 1)",
        "dominates(0, 1)", "dominates(2, 1)", "dominates(8, 0)", "leastDue(0)", "leastDue(8)", "lowerBound()", "refutes(1, 0)",
        "refutes(0, -1)", "decided()", "digest()",
    };

    private static final int USE = 512;

    /** The class and the reference, on which the same calls are made. */
    private static final class Both {
        private final EdgeTasks x = new EdgeTasks();
        private final Reference reference = new Reference();
        private final StringBuilder calls = new StringBuilder();

        Both(String[] state) {
            for (int k = 1; k < state.length; k++) {
                if (state[k].charAt(0) == '"') {
                    for (char sign : state[k].substring(1).toCharArray()) {
                        call("append(" + (int) sign + ")");
                    }
                } else {
                    call(state[k]);
                }
            }
        }

        String call(String call) {
            String want = Calls.answer(reference, call);
            calls.append(call).append(' ').append(want).append(", ");
            Check.same(calls.toString(), Calls.answer(x, call), want);
            return want;
        }

        /** Each answer that the state can be asked for; of many tasks some pairs only. */
        void lookAround() {
            int tasks = x.value(1);
            for (int what = 0; what <= 5; what++) {
                call("value(" + what + ")");
            }
            for (int a = 0; a < tasks; a++) {
                for (int what = 0; what <= 5; what++) {
                    call("task(" + a + ", " + what + ")");
                }
                for (String name : new String[] {"firstStart", "lastEnd", "slack", "leastDue"}) {
                    call(name + "(" + a + ")");
                }
                for (int b = 0; b < tasks; b++) {
                    if (tasks <= 4 || (a + b) % 7 == 0) {
                        for (String name : new String[] {"precedes", "why", "because", "dominates", "refutes"}) {
                            call(name + "(" + a + ", " + b + ")");
                        }
                    }
                }
                call("inBest(" + a + ", 0)");
                call("inBest(" + a + ", 1)");
            }
            for (String name : new String[] {"makespan()", "drawn(7, 9)", "lowerBound()", "decided()", "digest()"}) {
                call(name);
            }
        }

        /** What is saved and what the text holds shows only by what is done with it. */
        void unwind() {
            for (int k = 0; k < 5; k++) {
                call("digest()");
                call("makespan()");
                call("undo()");
            }
            call("carryOut()");
            call("digest()");
            call("clearText()");
            call("digest()");
        }
    }

    public static void main(String[] args) {
        statesAreAsNamed();
        refusedInEachState();
        oneCallInEachState();
        twoCallsInEachState();
        longRuns();
        contradictionAndBack();
        planAndBack();
        textAcrossStates();
        sideBySide();
        Check.end();
    }

    private static Both in(String name) {
        for (String[] state : STATES) {
            if (state[0].equals(name)) {
                return new Both(state);
            }
        }
        Check.report("no state " + name);
        return new Both(new String[] {""});
    }

    /** Else a change of a state might leave its name wrong, and with it what is tested. */
    private static void statesAreAsNamed() {
        for (String[] state : STATES) {
            boolean contradiction = new Both(state).x.value(4) == 1;
            boolean named = state[0].contains("contradiction") && !state[0].contains("no contradiction")
                    && !state[0].contains("undo of");
            Check.same("contradiction in: " + state[0], contradiction, named);
            Check.same("no plan in: " + state[0], new Both(state).x.makespan() == EdgeTasks.NONE,
                    named || state[0].contains("no possible plan"));
        }
        Check.same("bytes of the full text", in("a full text").x.clearText(), 100);
        Check.same("tasks", in("eight tasks in a row").x.value(1), 8);
        Check.same("the syntax error", in("a syntax error").x.carryOut(), -10 - 7);
        Check.same("states behind undo", in("behind undo").x.undo(), 2);
    }

    private static String wide(EdgeTasks x) {
        StringBuilder all = new StringBuilder();
        for (String question : QUESTIONS) {
            all.append(Calls.answer(x, question)).append(' ');
        }
        return all.toString();
    }

    /** A refused call and a question change no later answer, in whatever state they come. */
    private static void refusedInEachState() {
        for (String[] state : STATES) {
            Check.sentence("Terms, a call that throws an exception changes nothing: " + state[0]);
            for (String call : CHANGES) {
                EdgeTasks x = new Both(state).x;
                if (Calls.answer(x, call).startsWith("throws.")) {
                    unchanged(state, call, x);
                }
            }
            for (String question : QUESTIONS) {
                EdgeTasks x = new Both(state).x;
                Calls.answer(x, question);
                unchanged(state, question, x);
            }
        }
    }

    private static void unchanged(String[] state, String call, EdgeTasks x) {
        EdgeTasks twin = new Both(state).x;
        Check.same("answers behind " + call, wide(x), wide(twin));
        Check.same("states and text behind " + call, Check.traceOf(x), Check.traceOf(twin));
    }

    private static void oneCallInEachState() {
        for (String[] state : STATES) {
            Check.sentence("All promises, in: " + state[0]);
            new Both(state).lookAround();
            for (String question : QUESTIONS) {
                Both both = new Both(state);
                both.call(question);
                both.call("digest()");
            }
            for (String change : CHANGES) {
                Both both = new Both(state);
                both.call(change);
                both.lookAround();
                both.unwind();
            }
        }
    }

    private static void twoCallsInEachState() {
        for (String[] state : STATES) {
            Check.sentence("All promises, two calls in: " + state[0]);
            for (String first : CHANGES) {
                for (String second : CHANGES) {
                    Both both = new Both(state);
                    both.call(first);
                    both.call("makespan()");
                    both.call(second);
                    both.call("digest()");
                    both.call("undo()");
                    both.call("digest()");
                    both.call("carryOut()");
                    both.call("digest()");
                }
            }
        }
    }

    /** The same calls in another order each time, as far as an object is used. */
    private static void longRuns() {
        Check.sentence("What it is: 512 calls on one object");
        String[] all = new String[CHANGES.length + QUESTIONS.length];
        System.arraycopy(CHANGES, 0, all, 0, CHANGES.length);
        System.arraycopy(QUESTIONS, 0, all, CHANGES.length, QUESTIONS.length);
        Check.same("calls in all, a prime so that each step reaches all", all.length, 71);
        for (int step = 1; step < all.length; step++) {
            Both both = new Both(new String[] {""});
            for (int k = 0; k < USE; k++) {
                both.call(all[k * step % all.length]);
            }
        }
    }

    /** By hand: into a contradiction, where some calls answer all the same, and out of it in each way. */
    private static void contradictionAndBack() {
        Check.sentence("A contradiction, and out of it");
        String[] ways = {"undo()", "setDates(0, 0, 11)", "begin(1)", "carryOut()"};
        for (String way : ways) {
            EdgeTasks x = new EdgeTasks();
            x.addTask(0, 0, 11, 5);
            x.addTask(0, 1, 20, 6);
            x.give(1, 0, true);
            Check.same("a contradiction at once", x.value(4), 1);
            Check.same("undo", x.undo(), 2);
            Check.same("none", x.value(4), 0);
            Check.same("first start by rule 2", x.firstStart(1), 5);
            x.setDates(0, 0, 4);
            Check.same("makespan", x.makespan(), EdgeTasks.NONE);
            Check.badState(x, "firstStart", () -> x.firstStart(1));
            Check.badState(x, "decided", () -> x.decided());
            Check.same("leastDue of the one", x.leastDue(0), 5);
            Check.same("leastDue of the other one", x.leastDue(1), EdgeTasks.NONE);
            Check.same("lowerBound", x.lowerBound(), EdgeTasks.NONE);
            Check.same("refutes", x.refutes(0, 1), true);
            Check.write(x, "t0:0-400*1;");
            Calls.answer(x, way);
            if (way.equals("carryOut()")) {
                Check.same("a task more", x.value(1), 3);
                Check.same("a contradiction still", x.value(4), 1);
                x.setDates(0, 0, 11);
                Check.same("first start of the third one", x.firstStart(2), 0);
            }
            Check.same("no contradiction behind " + way, x.value(4), 0);
            Check.same("makespan behind " + way, x.makespan(),
                    way.equals("begin(1)") ? 0 : way.equals("carryOut()") ? 12 : 11);
        }
    }

    /** By hand: no possible plan and a possible one by turns, asked for in between and not. */
    private static void planAndBack() {
        Check.sentence("No possible plan, and back");
        for (int asked = 0; asked <= 1; asked++) {
            EdgeTasks x = new EdgeTasks();
            x.addTask(0, 5, 7, 2);
            for (int t = 0; t < 3; t++) {
                x.addTask(0, 2, 10, 2);
            }
            for (int round = 0; round < 20; round++) {
                if (asked == 1) {
                    Check.same("no plan", x.makespan(), EdgeTasks.NONE);
                    Check.same("no place", x.inBest(3, 0), EdgeTasks.NONE);
                }
                x.setDates(3, 2, 11);
                if (asked == 1) {
                    Check.same("makespan", x.makespan(), 11);
                    Check.same("start of the last one", x.inBest(3, 1), 9);
                }
                Check.same("undo", x.undo(), 3);
            }
            Check.same("no plan at the end", x.makespan(), EdgeTasks.NONE);
            Check.same("no start at the end", x.inBest(0, 1), EdgeTasks.NONE);
            Check.same("yet no contradiction", x.value(4), 0);
            Check.same("first start", x.firstStart(3), 2);
        }
    }

    /** By hand: the text outlasts begin and undo, and its orders meet what stands then. */
    private static void textAcrossStates() {
        Check.sentence("The text across begin and undo");
        EdgeTasks x = new EdgeTasks();
        Check.write(x, "t1:0-9*2;t0:0-9*3;p01;");
        Check.same("no second machine", x.carryOut(), 0);
        Check.same("begin", x.begin(2), 0);
        Check.same("both tasks", x.carryOut(), 3);
        Check.same("makespan", x.makespan(), 5);
        Check.same("twice as many, up to the precedence", x.carryOut(), 2);
        Check.same("tasks", x.value(1), 4);
        Check.same("undo", x.undo(), 3);
        Check.same("undo", x.undo(), 2);
        Check.same("no task", x.value(1), 0);
        Check.same("undo", x.undo(), 1);
        Check.same("one machine again", x.value(0), 1);
        Check.same("no second machine again", x.carryOut(), 0);
        Check.same("length", x.append('x'), 23);
        Check.same("syntax error", x.carryOut(), -10 - 22);
        Check.same("states", Check.undoAll(x), 2);
        Check.same("syntax error still", x.carryOut(), -10 - 22);
        Check.same("clearText", x.clearText(), 23);
    }

    /** By hand: objects by turns, each of which must not see the others. */
    private static void sideBySide() {
        Check.sentence("Several objects side by side");
        int count = 9;
        EdgeTasks[] all = new EdgeTasks[count];
        for (int k = 0; k < count; k++) {
            all[k] = new EdgeTasks();
            all[k].begin(1 + k % 3);
        }
        for (int t = 0; t < 8; t++) {
            for (int k = 0; k < count; k++) {
                if (t < k) {
                    Check.same("addTask", all[k].addTask(0, k, 400, k), t);
                }
                if (t < k && t > 0) {
                    Check.same("give", all[k].give(t, t - 1, true), t);
                }
                all[k].append(t < k ? 'x' : ';');
            }
        }
        for (int k = count - 1; k >= 0; k--) {
            EdgeTasks x = all[k];
            Check.same("machines", x.value(0), 1 + k % 3);
            Check.same("tasks", x.value(1), k);
            Check.same("makespan", x.makespan(), k + k * k);
            Check.same("lowerBound", x.lowerBound(), k + k * k);
            Check.same("drawn", x.drawn(k, 3), k + k * k);
            Check.same("carryOut", x.carryOut(), -10);
            if (k > 0) {
                Check.same("firstStart", x.firstStart(0), k * k);
                Check.same("inBest", x.inBest(0, 0), k - 1);
                Check.same("setDates", x.setDates(0, 0, 1), 400 - k);
                Check.same("contradiction", x.value(4), k > 1 ? 1 : 0);
            }
        }
        for (int k = 1; k < count; k++) {
            Check.same("undo", all[k].undo(), Math.min(3, 2 * k));
            Check.same("makespan behind undo", all[k].makespan(), k + k * k);
        }
    }
}
