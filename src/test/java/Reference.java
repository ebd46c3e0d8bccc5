import java.util.ArrayDeque;
import java.util.ArrayList;
import java.util.Deque;
import java.util.List;
import java.util.regex.Matcher;
import java.util.regex.Pattern;

/**
 * The document once more, word by word and without any shortcut: every set is tried, every row, every due
 * date. It shares nothing with the program, so that a fault would have to be made twice to stay unseen.
 */
final class Reference {
    private static final class Task {
        int machine;
        int release;
        int due;
        int duration;

        Task(int machine, int release, int due, int duration) {
            this.machine = machine;
            this.release = release;
            this.due = due;
            this.duration = duration;
        }
    }

    private static final class World {
        int machines;
        List<Task> tasks = new ArrayList<>();
        boolean[][] given = new boolean[8][8];

        World(int machines) {
            this.machines = machines;
        }

        World copy() {
            World other = new World(machines);
            for (Task t : tasks) {
                other.tasks.add(new Task(t.machine, t.release, t.due, t.duration));
            }
            for (int a = 0; a < 8; a++) {
                other.given[a] = given[a].clone();
            }
            return other;
        }

        int size() {
            return tasks.size();
        }

        boolean path(int from, int to) {
            for (int next = 0; next < size(); next++) {
                if (given[from][next] && (next == to || path(next, to))) {
                    return true;
                }
            }
            return false;
        }

        int givenSet(int task, boolean before) {
            int set = 0;
            for (int t = 0; t < size(); t++) {
                if (before ? given[t][task] : given[task][t]) {
                    set += 1 << t;
                }
            }
            return set;
        }
    }

    /** The four rules, in another order than the program's. */
    private static final class Thought {
        final World world;
        final int n;
        final int[] first = new int[8];
        final int[] last = new int[8];
        final boolean[][] before = new boolean[8][8];
        /** For each set whether it is on one machine. */
        final boolean[] sameMachine = new boolean[256];
        boolean contradiction;
        boolean changed;

        Thought(World world) {
            this.world = world;
            n = world.size();
            for (int set = 0; set < 1 << n; set++) {
                sameMachine[set] = isOnOneMachine(set);
            }
            for (int t = 0; t < n; t++) {
                first[t] = world.tasks.get(t).release;
                last[t] = world.tasks.get(t).due;
                before[t] = world.given[t].clone();
            }
            do {
                changed = false;
                boundsRule();
                setRule();
                pairRule();
                rowRule();
                contradiction = contradicts();
            } while (changed && !contradiction);
        }

        int least(int set) {
            int least = 1 << 20;
            for (int t = 0; t < n; t++) {
                if ((set & 1 << t) != 0) {
                    least = Math.min(least, first[t]);
                }
            }
            return least;
        }

        int greatest(int set) {
            int greatest = -(1 << 20);
            for (int t = 0; t < n; t++) {
                if ((set & 1 << t) != 0) {
                    greatest = Math.max(greatest, last[t]);
                }
            }
            return greatest;
        }

        int sum(int set) {
            int sum = 0;
            for (int t = 0; t < n; t++) {
                if ((set & 1 << t) != 0) {
                    sum += duration(t);
                }
            }
            return sum;
        }

        int duration(int t) {
            return world.tasks.get(t).duration;
        }

        boolean isOnOneMachine(int set) {
            int machine = -1;
            for (int t = 0; t < n; t++) {
                if ((set & 1 << t) != 0) {
                    if (machine >= 0 && machine != world.tasks.get(t).machine) {
                        return false;
                    }
                    machine = world.tasks.get(t).machine;
                }
            }
            return true;
        }

        void order(int a, int b) {
            changed |= !before[a][b];
            before[a][b] = true;
        }

        void boundsRule() {
            for (int set = 1; set < 1 << n; set++) {
                if (!sameMachine[set]) {
                    continue;
                }
                for (int i = 0; i < n; i++) {
                    boolean allBefore = true;
                    boolean allBehind = true;
                    for (int t = 0; t < n; t++) {
                        if ((set & 1 << t) != 0) {
                            allBefore &= before[t][i];
                            allBehind &= before[i][t];
                        }
                    }
                    if (allBefore && least(set) + sum(set) > first[i]) {
                        first[i] = least(set) + sum(set);
                        changed = true;
                    }
                    if (allBehind && greatest(set) - sum(set) < last[i]) {
                        last[i] = greatest(set) - sum(set);
                        changed = true;
                    }
                }
            }
        }

        void setRule() {
            for (int set = 1; set < 1 << n; set++) {
                for (int i = 0; i < n; i++) {
                    int both = set | 1 << i;
                    if (both == set || !sameMachine[both]) {
                        continue;
                    }
                    boolean allBefore = setBefore(set, i);
                    boolean allBehind = setBehind(set, i);
                    for (int t = 0; t < n; t++) {
                        if ((set & 1 << t) != 0 && allBefore) {
                            order(t, i);
                        }
                        if ((set & 1 << t) != 0 && allBehind) {
                            order(i, t);
                        }
                    }
                }
            }
        }

        boolean setBefore(int set, int i) {
            return least(set | 1 << i) + sum(set | 1 << i) > greatest(set);
        }

        boolean setBehind(int set, int i) {
            return least(set) + sum(set | 1 << i) > greatest(set | 1 << i);
        }

        /** Whether rule 2 tells that b precedes a. */
        boolean pairTells(int a, int b) {
            return a != b && sameMachine[1 << a | 1 << b] && first[a] + duration(a) + duration(b) > last[b];
        }

        void pairRule() {
            for (int a = 0; a < n; a++) {
                for (int b = 0; b < n; b++) {
                    if (pairTells(a, b)) {
                        order(b, a);
                    }
                }
            }
        }

        void rowRule() {
            for (int a = 0; a < n; a++) {
                for (int b = 0; b < n; b++) {
                    for (int c = 0; c < n; c++) {
                        if (before[a][b] && before[b][c]) {
                            order(a, c);
                        }
                    }
                }
            }
        }

        boolean contradicts() {
            for (int t = 0; t < n; t++) {
                if (before[t][t] || first[t] + duration(t) > last[t]) {
                    return true;
                }
            }
            for (int set = 1; set < 1 << n; set++) {
                if (sameMachine[set] && least(set) + sum(set) > greatest(set)) {
                    return true;
                }
            }
            return false;
        }

        int because(int a, int b) {
            for (int set = 1; set < 1 << n; set++) {
                boolean hasA = (set & 1 << a) != 0;
                boolean hasB = (set & 1 << b) != 0;
                if (hasA && !hasB && sameMachine[set | 1 << b] && setBefore(set, b)) {
                    return set;
                }
                if (hasB && !hasA && sameMachine[set | 1 << a] && setBehind(set, a)) {
                    return set;
                }
            }
            return -1;
        }
    }

    private World world = new World(1);
    private final Deque<World> saved = new ArrayDeque<>();
    private String text = "";
    private int[] bestRow;
    private int[] bestStarts;
    private int bestMakespan;

    private void save() {
        saved.addLast(world.copy());
        if (saved.size() > 4) {
            saved.removeFirst();
        }
    }

    private void known(int... tasks) {
        for (int t : tasks) {
            if (t < 0 || t >= world.size()) {
                throw new IndexOutOfBoundsException();
            }
        }
    }

    private static void argument(boolean fine) {
        if (!fine) {
            throw new IllegalArgumentException();
        }
    }

    private static void state(boolean fine) {
        if (!fine) {
            throw new IllegalStateException();
        }
    }

    private Thought sound() {
        Thought thought = new Thought(world);
        state(!thought.contradiction);
        return thought;
    }

    int begin(int machines) {
        argument(machines >= 1 && machines <= 3);
        save();
        int before = world.size();
        world = new World(machines);
        return before;
    }

    int addTask(int machine, int release, int due, int duration) {
        checkAdding(machine, release, due, duration);
        save();
        world.tasks.add(new Task(machine, release, due, duration));
        return world.size() - 1;
    }

    private void checkAdding(int machine, int release, int due, int duration) {
        if (machine < 0 || machine >= world.machines) {
            throw new IndexOutOfBoundsException();
        }
        argument(release >= 0 && release <= 200 && due >= 1 && due <= 400 && duration >= 1 && duration <= 50);
        state(world.size() < 8);
    }

    int setDates(int task, int release, int due) {
        known(task);
        argument(release >= 0 && release <= 200 && due >= 1 && due <= 400);
        save();
        Task t = world.tasks.get(task);
        int before = t.due - t.release;
        t.release = release;
        t.due = due;
        return before;
    }

    int give(int a, int b, boolean holds) {
        checkGiving(a, b, holds);
        save();
        world.given[a][b] = holds;
        return value(2);
    }

    private void checkGiving(int a, int b, boolean holds) {
        known(a, b);
        argument(a != b);
        state(world.given[a][b] != holds && !(holds && world.path(b, a)));
    }

    int giveDominance() {
        save();
        int count = 0;
        for (int a = 0; a < world.size(); a++) {
            for (int b = 0; b < world.size(); b++) {
                if (dominates(a, b) && !world.given[a][b] && !world.path(b, a)) {
                    world.given[a][b] = true;
                    count++;
                }
            }
        }
        return count;
    }

    int task(int task, int what) {
        known(task);
        argument(what >= 0 && what <= 5);
        Task t = world.tasks.get(task);
        int[] all = {t.machine, t.release, t.due, t.duration, world.givenSet(task, true), world.givenSet(task, false)};
        return all[what];
    }

    int value(int what) {
        argument(what >= 0 && what <= 5);
        return value(what, new Thought(world));
    }

    private int value(int what, Thought thought) {
        int given = 0;
        int pairs = 0;
        int open = 0;
        for (int a = 0; a < world.size(); a++) {
            given += Integer.bitCount(world.givenSet(a, false));
            for (int b = 0; b < a; b++) {
                if (world.tasks.get(a).machine == world.tasks.get(b).machine) {
                    pairs++;
                    open += thought.before[a][b] || thought.before[b][a] ? 0 : 1;
                }
            }
        }
        int[] all = {world.machines, world.size(), given, pairs,
            thought.contradiction ? 1 : 0, thought.contradiction ? -1 : open};
        return all[what];
    }

    int firstStart(int task) {
        known(task);
        return sound().first[task];
    }

    int lastEnd(int task) {
        known(task);
        return sound().last[task];
    }

    boolean precedes(int a, int b) {
        known(a, b);
        return sound().before[a][b];
    }

    int why(int a, int b) {
        known(a, b);
        Thought thought = sound();
        if (!thought.before[a][b]) {
            return -1;
        }
        if (world.given[a][b]) {
            return 0;
        }
        if (thought.pairTells(b, a)) {
            return 1;
        }
        return thought.because(a, b) != -1 ? 2 : 3;
    }

    int because(int a, int b) {
        known(a, b);
        return sound().because(a, b);
    }

    int slack(int task) {
        known(task);
        Thought thought = sound();
        return thought.last[task] - thought.first[task] - thought.duration(task);
    }

    /** The starts of the plan that a row makes, or null if it is not possible. */
    private int[] startsOf(int[] row) {
        int[] starts = new int[row.length];
        boolean possible = true;
        for (int k = 0; k < row.length; k++) {
            Task task = world.tasks.get(row[k]);
            int start = task.release;
            for (int j = 0; j < k; j++) {
                Task other = world.tasks.get(row[j]);
                if (other.machine == task.machine || world.given[row[j]][row[k]]) {
                    start = Math.max(start, starts[row[j]] + other.duration);
                }
            }
            starts[row[k]] = start;
            possible &= start + task.duration <= task.due;
        }
        return possible ? starts : null;
    }

    private int makespanOf(int[] starts) {
        int latest = 0;
        for (int t = 0; t < starts.length; t++) {
            latest = Math.max(latest, starts[t] + world.tasks.get(t).duration);
        }
        return latest;
    }

    private void tryRows(int[] row, int count, int taken) {
        if (count == row.length) {
            int[] starts = startsOf(row);
            if (starts != null && (bestRow == null || makespanOf(starts) < bestMakespan)) {
                bestRow = row.clone();
                bestStarts = starts;
                bestMakespan = makespanOf(starts);
            }
            return;
        }
        for (int t = 0; t < row.length; t++) {
            if ((taken & 1 << t) == 0 && (world.givenSet(t, true) & ~taken) == 0) {
                row[count] = t;
                tryRows(row, count + 1, taken | 1 << t);
            }
        }
    }

    private void findBest() {
        bestRow = null;
        tryRows(new int[world.size()], 0, 0);
    }

    int makespan() {
        findBest();
        return bestRow == null ? -1 : bestMakespan;
    }

    int inBest(int task, int what) {
        known(task);
        argument(what == 0 || what == 1);
        findBest();
        if (bestRow == null) {
            return -1;
        }
        int place = 0;
        while (bestRow[place] != task) {
            place++;
        }
        return what == 0 ? place : bestStarts[task];
    }

    int drawn(int seed, int rows) {
        argument(seed >= 0 && seed <= 999999 && rows >= 1 && rows <= 50);
        long x = seed;
        int least = -1;
        for (int r = 0; r < rows; r++) {
            List<Integer> row = new ArrayList<>();
            while (row.size() < world.size()) {
                x = (x * 1103515245L + 12345L) % 2147483648L;
                List<Integer> ready = new ArrayList<>();
                for (int t = 0; t < world.size(); t++) {
                    boolean free = !row.contains(t);
                    for (int other = 0; other < world.size(); other++) {
                        free &= !world.given[other][t] || row.contains(other);
                    }
                    if (free) {
                        ready.add(t);
                    }
                }
                row.add(ready.get((int) (x / 65536 % ready.size())));
            }
            int[] starts = startsOf(row.stream().mapToInt(Integer::intValue).toArray());
            if (starts != null && (least == -1 || makespanOf(starts) < least)) {
                least = makespanOf(starts);
            }
        }
        return least;
    }

    boolean dominates(int a, int b) {
        known(a, b);
        Task s = world.tasks.get(a);
        Task t = world.tasks.get(b);
        if (a == b || s.machine != t.machine || s.duration != t.duration || world.given[b][a]) {
            return false;
        }
        boolean same = s.release == t.release && s.due == t.due;
        for (int other = 0; other < world.size(); other++) {
            if (other == a || other == b) {
                continue;
            }
            if (world.given[other][a] && !world.given[other][b] || world.given[b][other] && !world.given[a][other]) {
                return false;
            }
            same &= world.given[other][a] == world.given[other][b] && world.given[a][other] == world.given[b][other];
        }
        return s.release <= t.release && s.due <= t.due && (!same || a < b);
    }

    int leastDue(int task) {
        known(task);
        World other = world.copy();
        for (int due = 1; due <= 400; due++) {
            other.tasks.get(task).due = due;
            if (!new Thought(other).contradiction) {
                return due;
            }
        }
        return -1;
    }

    int lowerBound() {
        for (int bound = 0; bound <= 400; bound++) {
            World other = world.copy();
            for (Task t : other.tasks) {
                if (t.due > bound) {
                    t.due = bound;
                }
            }
            if (!new Thought(other).contradiction) {
                return bound;
            }
        }
        return -1;
    }

    boolean refutes(int a, int b) {
        known(a, b);
        World other = world.copy();
        other.given[a][b] = true;
        return new Thought(other).contradiction;
    }

    double decided() {
        sound();
        int pairs = value(3);
        return pairs == 0 ? 1.0 : (double) (pairs - value(5)) / (double) pairs;
    }

    int append(int value) {
        argument(value >= 0 && value <= 127);
        state(text.length() < 100);
        text += (char) value;
        return text.length();
    }

    int clearText() {
        int before = text.length();
        text = "";
        return before;
    }

    private static final String ORDER = "(?:t[0-2]:[0-9]{1,3}-[0-9]{1,3}\\*[0-9]{1,2};|[pq][0-7][0-7];)";
    private static final Pattern ORDERS = Pattern.compile(ORDER + "*");

    private static boolean canStand(String begun) {
        Matcher m = ORDERS.matcher(begun);
        return m.matches() || m.hitEnd();
    }

    /** The first place of the form that is wrong, but for the ranges; -1 if there is none. */
    private static int formFault(String text) {
        for (int k = 0; k < text.length(); k++) {
            if (!canStand(text.substring(0, k + 1))) {
                return k;
            }
        }
        return ORDERS.matcher(text).matches() ? -1 : text.length();
    }

    static int syntaxFault(String text) {
        int fault = formFault(text);
        String good = fault == -1 ? text : text.substring(0, fault);
        Matcher numbers = Pattern.compile("([:\\-*])([0-9]+)").matcher(good);
        while (numbers.find()) {
            boolean tooMany = numbers.end() < text.length() && Character.isDigit(text.charAt(numbers.end()));
            int number = Integer.parseInt(numbers.group(2));
            char sign = numbers.group(1).charAt(0);
            boolean fits = sign == ':' ? number <= 200
                    : sign == '-' ? number >= 1 && number <= 400 : number >= 1 && number <= 50;
            if (!tooMany && !fits) {
                return numbers.start(2);
            }
        }
        return fault;
    }

    int carryOut() {
        int fault = syntaxFault(text);
        if (fault != -1) {
            return -10 - fault;
        }
        save();
        int done = 0;
        Matcher orders = Pattern.compile(ORDER).matcher(text);
        while (orders.find()) {
            try {
                follow(orders.group());
            } catch (RuntimeException e) {
                return done;
            }
            done++;
        }
        return done;
    }

    private void follow(String order) {
        if (order.charAt(0) == 't') {
            String[] parts = order.substring(1, order.length() - 1).split("[:*-]");
            int[] numbers = new int[4];
            for (int k = 0; k < 4; k++) {
                numbers[k] = Integer.parseInt(parts[k]);
            }
            checkAdding(numbers[0], numbers[1], numbers[2], numbers[3]);
            world.tasks.add(new Task(numbers[0], numbers[1], numbers[2], numbers[3]));
            return;
        }
        int a = order.charAt(1) - '0';
        int b = order.charAt(2) - '0';
        checkGiving(a, b, order.charAt(0) == 'p');
        world.given[a][b] = order.charAt(0) == 'p';
    }

    int undo() {
        state(!saved.isEmpty());
        world = saved.removeLast();
        return saved.size();
    }

    long digest() {
        List<Long> all = new ArrayList<>();
        all.add((long) text.length());
        Thought thought = new Thought(world);
        for (int what = 0; what <= 5; what++) {
            all.add((long) value(what, thought));
        }
        for (int t = 0; t < world.size(); t++) {
            for (int what = 0; what <= 5; what++) {
                all.add((long) task(t, what));
            }
            if (!thought.contradiction) {
                long set = 0;
                for (int b = 0; b < world.size(); b++) {
                    set += thought.before[t][b] ? 1 << b : 0;
                }
                all.add((long) thought.first[t]);
                all.add((long) thought.last[t]);
                all.add(set);
            }
        }
        all.add((long) saved.size());
        long h = 3769;
        for (long v : all) {
            h = 31 * h + v;
        }
        return h;
    }
}
