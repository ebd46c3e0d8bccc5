import java.util.Random;
import java.util.TreeMap;

/** All promises: drawn runs of calls (the same ones each time), compared with the reference. */
public final class ReferenceTests {
    private static final int RUNS = 500;
    private static final int CALLS = 120;
    /** Some runs go on far beyond the 512 calls that an object is used for. */
    private static final int MANY_CALLS = 600;
    /** Runs on objects side by side. */
    private static final int GROUPS = 10;
    private static final int GROUP = 10;

    private interface Answer {
        Object get();
    }

    private final Random random;
    private final EdgeTasks x = new EdgeTasks();
    private final Reference reference = new Reference();
    private final int run;
    private final int machines;
    private final int slack;
    private final int longest;
    private final StringBuilder calls = new StringBuilder();
    /** How often each kind of answer was due; an argument of main has it printed. */
    private static final TreeMap<String, Integer> seen = new TreeMap<>();

    private ReferenceTests(int run) {
        this.run = run;
        random = new Random(run);
        machines = 1 + run % 3;
        slack = new int[] {8, 20, 45, 100}[run / 3 % 4];
        longest = new int[] {2, 4, 9, 9, 50}[run % 5];
    }

    public static void main(String[] args) {
        for (int run = 0; run < RUNS; run++) {
            ReferenceTests test = begun(run);
            int calls = run % 100 == 99 ? MANY_CALLS : CALLS;
            for (int k = 0; k < calls; k++) {
                if (!test.step(k)) {
                    break;
                }
            }
        }
        for (int group = 0; group < GROUPS; group++) {
            sideBySide(RUNS + group * GROUP);
        }
        if (args.length > 0) {
            seen.forEach((what, count) -> System.out.println(what + " " + count));
        }
        Check.end();
    }

    private static ReferenceTests begun(int run) {
        ReferenceTests test = new ReferenceTests(run);
        test.compare("begin(" + test.machines + ")", () -> test.x.begin(test.machines),
                () -> test.reference.begin(test.machines));
        return test;
    }

    /** Several objects, on which the calls are made by turns. */
    private static void sideBySide(int firstRun) {
        ReferenceTests[] tests = new ReferenceTests[GROUP];
        for (int k = 0; k < GROUP; k++) {
            tests[k] = begun(firstRun + k);
        }
        for (int k = 0; k < CALLS; k++) {
            for (ReferenceTests test : tests) {
                if (!test.step(k)) {
                    return;
                }
            }
        }
    }

    private static String answer(Answer call) {
        try {
            return String.valueOf(call.get());
        } catch (RuntimeException e) {
            return "throws." + e.getClass().getName();
        }
    }

    private boolean compare(String call, Answer got, Answer want) {
        calls.append(call).append(' ');
        String a = answer(got);
        String b = answer(want);
        String kind = b.startsWith("throws") ? b : b.startsWith("-") ? "less than 0" : "answer";
        seen.merge(call.substring(0, call.indexOf('(')) + " " + kind, 1, Integer::sum);
        if (!a.equals(b)) {
            Check.report("run " + run + ": " + call + " answered " + a + ", due is " + b + " behind " + calls);
            return false;
        }
        return true;
    }

    private boolean step(int k) {
        int kind = random.nextInt(100);
        if (x.value(4) == 1 && random.nextInt(3) > 0) {
            return compare("undo()", x::undo, reference::undo)
                    && (x.value(4) == 0 || relax()) && compare("digest()", x::digest, reference::digest);
        }
        if (kind < 40 || k < 7) {
            return change() && compare("digest()", x::digest, reference::digest);
        }
        return kind < 50 ? text() && compare("digest()", x::digest, reference::digest) : ask(random.nextInt(17));
    }

    /** The number of a task, seldom of one that there is not. */
    private int someTask() {
        int tasks = x.value(1);
        return random.nextInt(12) == 0 || tasks == 0 ? random.nextInt(11) - 1 : random.nextInt(tasks);
    }

    /** Mostly the number, seldom one at the edge or out of range. */
    private int mostly(int number, int least, int greatest) {
        switch (random.nextInt(120)) {
            case 0: return least - 1;
            case 1: return greatest + 1;
            case 2: return least;
            case 3: return greatest;
            default: return Math.max(least, Math.min(greatest, number));
        }
    }

    /** Gives a task more time, so that not all of a run is spent in contradictions. */
    private boolean relax() {
        int a = someTask();
        int due = 100 + random.nextInt(300);
        return compare("setDates(" + a + ", 0, " + due + ")",
                () -> x.setDates(a, 0, due), () -> reference.setDates(a, 0, due));
    }

    private boolean change() {
        int tasks = x.value(1);
        int kind = tasks < 5 ? random.nextInt(20) : tasks < 8 ? random.nextInt(40) : 14 + random.nextInt(26);
        int duration = mostly(1 + random.nextInt(longest), 1, 50);
        int release = mostly(random.nextInt(slack + 1), 0, 200);
        int due = mostly(release + duration + random.nextInt(slack + 1) * 3, 1, 400);
        if (kind < 15) {
            int machine = mostly(random.nextInt(machines), 0, machines - 1);
            return compare("addTask(" + machine + ", " + release + ", " + due + ", " + duration + ")",
                    () -> x.addTask(machine, release, due, duration),
                    () -> reference.addTask(machine, release, due, duration));
        }
        int a = someTask();
        int b = someTask();
        if (kind < 25) {
            boolean holds = random.nextInt(3) > 0;
            return compare("give(" + a + ", " + b + ", " + holds + ")",
                    () -> x.give(a, b, holds), () -> reference.give(a, b, holds));
        }
        if (kind < 34) {
            return compare("setDates(" + a + ", " + release + ", " + due + ")",
                    () -> x.setDates(a, release, due), () -> reference.setDates(a, release, due));
        }
        if (kind < 36) {
            return compare("giveDominance()", x::giveDominance, reference::giveDominance);
        }
        if (kind < 39) {
            return compare("undo()", x::undo, reference::undo);
        }
        int other = random.nextInt(5);
        return random.nextInt(4) > 0
                || compare("begin(" + other + ")", () -> x.begin(other), () -> reference.begin(other));
    }

    private boolean ask(int kind) {
        int a = someTask();
        int b = someTask();
        int what = random.nextInt(8) - 1;
        int seed = mostly(random.nextInt(1000000), 0, 999999);
        int rows = mostly(1 + random.nextInt(50), 1, 50);
        String pair = "(" + a + ", " + b + ")";
        switch (kind) {
            case 0: return compare("task(" + a + ", " + what + ")",
                    () -> x.task(a, what), () -> reference.task(a, what));
            case 1: return compare("value(" + what + ")", () -> x.value(what), () -> reference.value(what));
            case 2: return compare("firstStart(" + a + ")", () -> x.firstStart(a), () -> reference.firstStart(a));
            case 3: return compare("lastEnd(" + a + ")", () -> x.lastEnd(a), () -> reference.lastEnd(a));
            case 4: return compare("precedes" + pair, () -> x.precedes(a, b), () -> reference.precedes(a, b));
            case 5: return compare("why" + pair, () -> x.why(a, b), () -> reference.why(a, b));
            case 6: return compare("because" + pair, () -> x.because(a, b), () -> reference.because(a, b));
            case 7: return compare("slack(" + a + ")", () -> x.slack(a), () -> reference.slack(a));
            case 8: return compare("makespan()", x::makespan, reference::makespan);
            case 9: return compare("inBest(" + a + ", " + what + ")",
                    () -> x.inBest(a, what), () -> reference.inBest(a, what));
            case 10: return compare("inBest(" + a + ", " + what % 2 + ")",
                    () -> x.inBest(a, what % 2), () -> reference.inBest(a, what % 2));
            case 11: return compare("drawn(" + seed + ", " + rows + ")",
                    () -> x.drawn(seed, rows), () -> reference.drawn(seed, rows));
            case 12: return compare("dominates" + pair, () -> x.dominates(a, b), () -> reference.dominates(a, b));
            case 13: return compare("leastDue(" + a + ")", () -> x.leastDue(a), () -> reference.leastDue(a));
            case 14: return compare("lowerBound()", x::lowerBound, reference::lowerBound);
            case 15: return compare("refutes" + pair, () -> x.refutes(a, b), () -> reference.refutes(a, b));
            default: return compare("decided()", x::decided, reference::decided);
        }
    }

    private String order() {
        if (random.nextInt(3) > 0) {
            return (random.nextInt(3) > 0 ? "p" : "q") + random.nextInt(6) + random.nextInt(6) + ";";
        }
        int release = random.nextInt(40);
        int due = release + random.nextInt(80);
        return "t" + random.nextInt(machines) + ":" + (random.nextInt(3) == 0 ? "0" : "") + release + "-"
                + due + "*" + random.nextInt(12) + ";";
    }

    private boolean text() {
        StringBuilder text = new StringBuilder();
        int orders = random.nextInt(6);
        for (int k = 0; k < orders; k++) {
            text.append(order());
        }
        for (int faults = random.nextInt(3); faults > 0 && text.length() > 0; faults--) {
            int at = random.nextInt(text.length());
            switch (random.nextInt(4)) {
                case 0: text.setCharAt(at, "tpq:-*;0123456789 x".charAt(random.nextInt(19))); break;
                case 1: text.insert(at, random.nextInt(10)); break;
                case 2: text.deleteCharAt(at); break;
                default: if (random.nextInt(3) == 0) text.setLength(at);
            }
        }
        if (random.nextInt(5) > 0 && !compare("clearText()", x::clearText, reference::clearText)) {
            return false;
        }
        for (int k = 0; k < text.length(); k++) {
            int value = text.charAt(k);
            if (!compare("append(" + value + ")", () -> x.append(value), () -> reference.append(value))) {
                return false;
            }
        }
        return compare("carryOut()", x::carryOut, reference::carryOut);
    }
}
