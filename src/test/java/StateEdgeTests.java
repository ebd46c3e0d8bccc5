import java.math.BigInteger;

/** "What it is", "Undo" and "Exceptions" of the terms, and promises 26 and 27, sentence by sentence. */
public final class StateEdgeTests {
    public static void main(String[] args) {
        savesBeforeTheCall();
        savesEvenIfNothingChanges();
        onlyUndoableCallsSave();
        refusedCallsSaveNothing();
        atMostFour();
        oldestFirst();
        everythingExceptTheText();
        undoRestores();
        digestOfEachValue();
        digestInAContradiction();
        digestOverflows();
        upToFullUse();
        Check.end();
    }

    private static EdgeTasks two() {
        EdgeTasks x = new EdgeTasks();
        Check.write(x, "t0:0-9*1;");
        x.begin(2);
        x.addTask(0, 1, 20, 3);
        x.addTask(1, 2, 30, 4);
        x.give(0, 1, true);
        return x;
    }

    /** The call changes the digest, and undo brings it back. */
    private static void saves(String what, Check.On call) {
        EdgeTasks x = two();
        x.undo();
        x.give(1, 0, true);
        x.undo();
        long before = x.digest();
        call.call(x);
        Check.isTrue(what + " left the number of saved states", x.digest() != before);
        Check.same("undo of " + what, x.undo(), 3);
        Check.same("digest behind the undo of " + what, x.digest(), before);
    }

    private static void savesBeforeTheCall() {
        Check.sentence("Terms, undo: saves the state from before the call");
        saves("begin", x -> x.begin(3));
        saves("addTask", x -> x.addTask(1, 5, 50, 6));
        saves("setDates", x -> x.setDates(1, 5, 50));
        saves("give", x -> x.give(1, 0, true));
        saves("giveDominance", x -> x.giveDominance());
        saves("carryOut", x -> x.carryOut());
    }

    private static EdgeTasks fresh() {
        return new EdgeTasks();
    }

    private static void savesUnchanged(String what, EdgeTasks x, Check.On call) {
        int before = 0;
        call.call(x);
        Check.same("undo of " + what, x.undo(), before);
        Check.badState(x, "undo once more behind " + what, () -> x.undo());
    }

    private static EdgeTasks oneTaskAndNoState() {
        EdgeTasks x = fresh();
        for (int k = 0; k < 5; k++) {
            x.addTask(0, 3, 40, 5);
        }
        Check.undoAll(x);
        return x;
    }

    private static void savesEvenIfNothingChanges() {
        Check.sentence("Terms, undo: even if the call changes nothing");
        savesUnchanged("begin", fresh(), x -> x.begin(1));
        savesUnchanged("setDates", oneTaskAndNoState(), x -> x.setDates(0, 3, 40));
        savesUnchanged("giveDominance", fresh(), x -> x.giveDominance());
        savesUnchanged("giveDominance of one", oneTaskAndNoState(), x -> x.giveDominance());
        savesUnchanged("carryOut", fresh(), x -> x.carryOut());
        EdgeTasks thrown = fresh();
        Check.write(thrown, "p01;");
        savesUnchanged("carryOut of an order that would throw", thrown, x -> x.carryOut());
    }

    private static void savesNothing(String what, Check.On call) {
        EdgeTasks x = two();
        call.call(x);
        EdgeTasks twin = two();
        for (int k = 0; k < 4; k++) {
            Check.same("undo behind " + what, x.undo(), twin.undo());
            for (int v = 0; v <= 5; v++) {
                Check.same("value(" + v + ") behind " + what, x.value(v), twin.value(v));
            }
        }
        Check.badState(x, "a fifth undo behind " + what, () -> x.undo());
    }

    private static void onlyUndoableCallsSave() {
        Check.sentence("Terms, undo: only calls whose description says \"undoable\" save a state");
        savesNothing("append", x -> x.append('x'));
        savesNothing("clearText", x -> x.clearText());
        savesNothing("task", x -> x.task(0, 0));
        savesNothing("value", x -> x.value(5));
        savesNothing("firstStart", x -> x.firstStart(0));
        savesNothing("lastEnd", x -> x.lastEnd(0));
        savesNothing("precedes", x -> x.precedes(0, 1));
        savesNothing("why", x -> x.why(0, 1));
        savesNothing("because", x -> x.because(0, 1));
        savesNothing("slack", x -> x.slack(0));
        savesNothing("makespan", x -> x.makespan());
        savesNothing("inBest", x -> x.inBest(0, 0));
        savesNothing("drawn", x -> x.drawn(0, 50));
        savesNothing("dominates", x -> x.dominates(0, 1));
        savesNothing("leastDue", x -> x.leastDue(0));
        savesNothing("lowerBound", x -> x.lowerBound());
        savesNothing("refutes", x -> x.refutes(1, 0));
        savesNothing("decided", x -> x.decided());
        savesNothing("digest", x -> x.digest());
        savesNothing("nothing at all", x -> { });
    }

    private static void refused(String what, Check.On call) {
        savesNothing(what, x -> {
            try {
                call.call(x);
                Check.report(what + " threw nothing");
            } catch (RuntimeException e) {
                return;
            }
        });
    }

    private static void refusedCallsSaveNothing() {
        Check.sentence("Terms, exceptions: a call that throws an exception changes nothing, and saves no state");
        refused("begin", x -> x.begin(4));
        refused("addTask on no machine", x -> x.addTask(2, 0, 9, 1));
        refused("addTask", x -> x.addTask(0, 0, 9, 51));
        refused("setDates of no task", x -> x.setDates(2, 0, 9));
        refused("setDates", x -> x.setDates(0, 0, 401));
        refused("give of no task", x -> x.give(0, 2, true));
        refused("give of the same", x -> x.give(1, 1, true));
        refused("give against a given one", x -> x.give(1, 0, true));
        refused("give what is given", x -> x.give(0, 1, true));
        refused("take what is not given", x -> x.give(1, 0, false));
        Check.sentence("Promise 25: with a syntax error no state is saved");
        savesNothing("carryOut", x -> {
            x.append('x');
            x.carryOut();
        });
    }

    private static void atMostFour() {
        Check.sentence("Terms, undo: at most 4 states are saved");
        for (int changes = 0; changes <= 12; changes++) {
            EdgeTasks x = new EdgeTasks();
            for (int k = 0; k < changes; k++) {
                x.begin(1 + k % 3);
            }
            Check.same("states of " + changes, Check.undoAll(x), Math.min(changes, 4));
        }
    }

    private static void oldestFirst() {
        Check.sentence("Terms, undo: the oldest is dropped first");
        EdgeTasks x = new EdgeTasks();
        for (int t = 0; t < 8; t++) {
            x.addTask(0, t, 100, 5);
        }
        Check.sentence("Promise 26: returns the number of saved states that remain");
        for (int left = 3; left >= 0; left--) {
            Check.same("undo", x.undo(), left);
            Check.same("tasks", x.value(1), 4 + left);
        }
        Check.sentence("Promise 26: IllegalStateException if there is no saved state");
        Check.badState(x, "undo", () -> x.undo());
        Check.same("tasks", x.value(1), 4);
        Check.sentence("Promise 26: removes it from the saved states, which can be filled again");
        x.addTask(0, 50, 100, 5);
        x.addTask(0, 51, 100, 5);
        Check.same("undo", x.undo(), 1);
        x.addTask(0, 52, 100, 5);
        x.setDates(5, 53, 100);
        Check.same("undo", x.undo(), 2);
        Check.same("release", x.task(5, 1), 52);
        Check.same("undo", x.undo(), 1);
        Check.same("undo", x.undo(), 0);
        Check.same("tasks", x.value(1), 4);
    }

    private static void everythingExceptTheText() {
        Check.sentence("Terms, undo: the saved state contains everything except the text");
        EdgeTasks x = two();
        x.begin(3);
        x.clearText();
        Check.write(x, "t2:7-9*2;x");
        Check.same("undo", x.undo(), 3);
        Check.same("machines", x.value(0), 2);
        Check.same("tasks", x.value(1), 2);
        Check.same("given", x.value(2), 1);
        long[][] due = {{0, 1, 20, 3, 0, 2}, {1, 2, 30, 4, 1, 0}};
        for (int t = 0; t < 2; t++) {
            for (int what = 0; what <= 5; what++) {
                Check.same("task(" + t + ", " + what + ")", x.task(t, what), due[t][what]);
            }
        }
        Check.same("first start", x.firstStart(1), 4);
        Check.same("makespan", x.makespan(), 8);
        Check.same("the text stays", x.carryOut(), -10 - 9);
        Check.same("its length stays", x.clearText(), 10);
    }

    /** Eight tasks with all that can be given, and back from other ones. */
    private static void undoRestores() {
        Check.sentence("Promise 26: restores the most recently saved state, of 8 tasks");
        EdgeTasks x = Check.machines(3);
        for (int t = 0; t < 8; t++) {
            x.addTask(t % 3, 10 * t, 400 - t, 50 - t);
        }
        Check.write(x, "p76;p65;p54;p43;p32;p21;p10;");
        Check.same("carryOut", x.carryOut(), 7);
        long before = x.digest();
        int makespan = x.makespan();
        x.begin(1);
        x.addTask(0, 0, 9, 1);
        x.addTask(0, 0, 9, 1);
        x.give(1, 0, true);
        for (int k = 0; k < 4; k++) {
            x.undo();
        }
        Check.same("tasks", x.value(1), 8);
        for (int t = 0; t < 8; t++) {
            long[] due = {t % 3, 10 * t, 400 - t, 50 - t, t == 7 ? 0 : 2 << t, t == 0 ? 0 : 1 << t - 1};
            for (int what = 0; what <= 5; what++) {
                Check.same("task(" + t + ", " + what + ")", x.task(t, what), due[what]);
            }
        }
        Check.same("makespan", x.makespan(), makespan);
        Check.same("digest, but for the saved states", x.digest(), before - 4);
    }

    private static void digestOfEachValue() {
        Check.sentence("Promise 27: the length of the text");
        EdgeTasks x = new EdgeTasks();
        for (int length = 0; length <= 100; length++) {
            Check.same("digest", x.digest(), Check.hash(length, 1, 0, 0, 0, 0, 0, 0));
            if (length < 100) {
                x.append(length);
            }
        }
        Check.sentence("Promise 27: the number of saved states");
        x.clearText();
        for (int k = 0; k <= 6; k++) {
            Check.same("digest", x.digest(), Check.hash(0, 1, 0, 0, 0, 0, 0, Math.min(k, 4)));
            x.begin(1);
        }
        Check.sentence("Promise 27: value() for 0 to 5, and for each task its values");
        x = two();
        x.addTask(1, 0, 30, 5);
        x.addTask(0, 0, 400, 2);
        Check.same("digest", x.digest(), Check.hash(9, 2, 4, 1, 2, 0, 2,
                0, 1, 20, 3, 0, 2, 1, 20, 2,
                1, 2, 30, 4, 1, 0, 4, 30, 0,
                1, 0, 30, 5, 0, 0, 0, 30, 0,
                0, 0, 400, 2, 0, 0, 0, 400, 0, 4));
    }

    private static void digestInAContradiction() {
        Check.sentence("Promise 27: in a contradiction without first starts, last ends and sets by reasoning");
        EdgeTasks x = two();
        x.setDates(1, 2, 8);
        Check.same("none yet", x.digest(), Check.hash(9, 2, 2, 1, 0, 0, 0,
                0, 1, 20, 3, 0, 2, 1, 4, 2,
                1, 2, 8, 4, 1, 0, 4, 8, 0, 4));
        x.setDates(1, 5, 8);
        Check.same("a contradiction", x.digest(), Check.hash(9, 2, 2, 1, 0, 1, -1,
                0, 1, 20, 3, 0, 2,
                1, 5, 8, 4, 1, 0, 4));
    }

    /** The same hash with numbers of any length, cut to 64 bits at the end only. */
    private static void digestOverflows() {
        Check.sentence("Promise 27: with the overflow of long arithmetic ignored");
        EdgeTasks x = Check.machines(1);
        for (int t = 0; t < 8; t++) {
            x.addTask(0, 0, 400, 50);
        }
        BigInteger h = BigInteger.valueOf(3769);
        h = with(h, 0, 1, 8, 0, 28, 0, 28);
        for (int t = 0; t < 8; t++) {
            h = with(h, 0, 0, 400, 50, 0, 0, 0, 400, 0);
        }
        h = with(h, 4);
        Check.isTrue("no overflow", h.bitLength() > 64);
        Check.same("digest", x.digest(), h.longValue());
    }

    private static BigInteger with(BigInteger h, long... values) {
        BigInteger sum = h;
        for (long v : values) {
            sum = sum.multiply(BigInteger.valueOf(31)).add(BigInteger.valueOf(v));
        }
        return sum;
    }

    private interface Ask {
        Object ask(EdgeTasks x);
    }

    private static String answer(Ask ask, EdgeTasks x) {
        try {
            return String.valueOf(ask.ask(x));
        } catch (RuntimeException e) {
            return "throws." + e.getClass().getName();
        }
    }

    /** Each call some 500 times on one object: nothing wears out. */
    private static void upToFullUse() {
        Check.sentence("What it is: up to 512 calls on one object");
        Ask[] calls = {x -> x.task(7, 5), x -> x.value(5), x -> x.firstStart(7), x -> x.lastEnd(0),
            x -> x.precedes(0, 7), x -> x.why(0, 7), x -> x.because(0, 7), x -> x.slack(3), x -> x.makespan(),
            x -> x.inBest(7, 1), x -> x.drawn(999999, 50), x -> x.dominates(0, 7), x -> x.leastDue(7),
            x -> x.lowerBound(), x -> x.refutes(7, 0), x -> x.decided(), x -> x.clearText(), x -> x.digest(),
            x -> x.addTask(0, 0, 400, 50), x -> x.begin(4), x -> x.give(7, 7, true), x -> x.append(128)};
        for (Ask call : calls) {
            EdgeTasks x = new EdgeTasks();
            for (int t = 0; t < 8; t++) {
                x.addTask(0, 0, 400, 50);
            }
            String first = answer(call, x);
            for (int k = 10; k <= 512; k++) {
                Check.same("call " + k, answer(call, x), first);
            }
        }
        fullUseOfText();
        fullUseOfUndo();
    }

    private static void fullUseOfText() {
        EdgeTasks x = new EdgeTasks();
        for (int round = 0; round < 5; round++) {
            for (int k = 1; k <= 100; k++) {
                Check.same("append", x.append('q'), k);
            }
            Check.same("append to a full text", answer(y -> y.append('q'), x),
                    "throws." + IllegalStateException.class.getName());
            Check.same("clearText", x.clearText(), 100);
        }
    }

    private static void fullUseOfUndo() {
        EdgeTasks x = new EdgeTasks();
        x.addTask(0, 0, 400, 50);
        x.addTask(0, 0, 400, 50);
        for (int k = 3; k <= 500; k += 6) {
            Check.same("setDates", x.setDates(0, k % 200, 400), 400 - (k == 3 ? 0 : (k - 6) % 200));
            Check.same("give", x.give(0, 1, true), 1);
            Check.same("giveDominance", x.giveDominance(), 0);
            Check.same("undo", x.undo(), 3);
            Check.same("give", x.give(0, 1, false), 0);
            Check.same("firstStart", x.firstStart(0), k % 200);
        }
    }
}
