/** Tasks on machines that are ordered by reasoning; the project's document tells what each method promises. */
public final class EdgeTasks {
    public static final int NONE = -1;

    private static final int MOST_MACHINES = 3;
    private static final int MOST_TASKS = 8;
    private static final int ALL_SETS = 1 << MOST_TASKS;
    private static final int LAST_RELEASE = 200;
    private static final int FIRST_DUE = 1;
    private static final int LAST_DUE = 400;
    private static final int SHORTEST = 1;
    private static final int LONGEST = 50;
    private static final int LAST_SEED = 999999;
    private static final int MOST_ROWS = 50;
    private static final int MOST_SAVED = 4;
    private static final int TEXT_ROOM = 100;
    private static final int LAST_BYTE = 127;
    private static final int ASPECTS = 6;

    // What stands in the way of a change, in the order in which the document lists the exceptions.
    private static final int FINE = 0;
    private static final int NO_SUCH = 1;
    private static final int OUT_OF_RANGE = 2;
    private static final int NOT_NOW = 3;

    private final Plant plant;
    private final Reasoning reasoning;
    private final BestPlan best;
    private final Drawing drawing;
    private final Plant otherPlant;
    private final Reasoning otherReasoning;
    private final History history;
    private final OrderText text;
    private boolean reasoned;
    private boolean planned;

    public EdgeTasks() {
        plant = new Plant();
        reasoning = new Reasoning(plant);
        best = new BestPlan(plant, reasoning);
        drawing = new Drawing(plant);
        otherPlant = new Plant();
        otherReasoning = new Reasoning(otherPlant);
        history = new History();
        text = new OrderText();
        reasoned = false;
        planned = false;
    }

    // ---- tasks

    public int begin(int machines) throws IllegalArgumentException {
        if (machines < 1 || machines > MOST_MACHINES) {
            throw new IllegalArgumentException("machines out of range");
        }
        int before = plant.tasks;
        beforeChange();
        plant.clear(machines);
        return before;
    }

    public int addTask(int machine, int release, int due, int duration)
            throws IndexOutOfBoundsException, IllegalArgumentException, IllegalStateException {
        refuse(plant.faultOfAdding(machine, release, due, duration));
        beforeChange();
        plant.add(machine, release, due, duration);
        return plant.tasks - 1;
    }

    public int setDates(int task, int release, int due) throws IndexOutOfBoundsException, IllegalArgumentException {
        refuseUnknown(task);
        if (!plant.areDates(release, due)) {
            throw new IllegalArgumentException("release or due date out of range");
        }
        int before = plant.due[task] - plant.release[task];
        beforeChange();
        plant.release[task] = release;
        plant.due[task] = due;
        return before;
    }

    public int give(int a, int b, boolean holds)
            throws IndexOutOfBoundsException, IllegalArgumentException, IllegalStateException {
        refuse(plant.faultOfGiving(a, b, holds));
        beforeChange();
        plant.setGiven(a, b, holds);
        return plant.countGiven();
    }

    public int giveDominance() {
        beforeChange();
        int added = 0;
        for (int a = 0; a < plant.tasks; a++) {
            for (int b = 0; b < plant.tasks; b++) {
                if (plant.outranks(a, b) && !plant.isGiven(a, b) && !plant.leads(b, a)) {
                    plant.setGiven(a, b, true);
                    added++;
                }
            }
        }
        return added;
    }

    // ---- values

    public int task(int task, int what) throws IndexOutOfBoundsException, IllegalArgumentException {
        refuseUnknown(task);
        if (what < 0 || what >= ASPECTS) {
            throw new IllegalArgumentException("what out of range");
        }
        return plant.aspect(task, what);
    }

    public int value(int what) throws IllegalArgumentException {
        if (what < 0 || what >= ASPECTS) {
            throw new IllegalArgumentException("what out of range");
        }
        return number(what);
    }

    // ---- reasoning

    public int firstStart(int task) throws IndexOutOfBoundsException, IllegalStateException {
        refuseUnknown(task);
        refuseContradiction();
        return reasoning.first[task];
    }

    public int lastEnd(int task) throws IndexOutOfBoundsException, IllegalStateException {
        refuseUnknown(task);
        refuseContradiction();
        return reasoning.last[task];
    }

    public boolean precedes(int a, int b) throws IndexOutOfBoundsException, IllegalStateException {
        refuseUnknown(a);
        refuseUnknown(b);
        refuseContradiction();
        return reasoning.orders(a, b);
    }

    public int why(int a, int b) throws IndexOutOfBoundsException, IllegalStateException {
        refuseUnknown(a);
        refuseUnknown(b);
        refuseContradiction();
        return reasoning.reason(a, b);
    }

    public int because(int a, int b) throws IndexOutOfBoundsException, IllegalStateException {
        refuseUnknown(a);
        refuseUnknown(b);
        refuseContradiction();
        return reasoning.leastSet(a, b);
    }

    public int slack(int task) throws IndexOutOfBoundsException, IllegalStateException {
        refuseUnknown(task);
        refuseContradiction();
        return reasoning.last[task] - reasoning.first[task] - plant.duration[task];
    }

    // ---- plans

    public int makespan() {
        makePlan();
        return best.makespan;
    }

    public int inBest(int task, int what) throws IndexOutOfBoundsException, IllegalArgumentException {
        refuseUnknown(task);
        if (what < 0 || what > 1) {
            throw new IllegalArgumentException("what out of range");
        }
        makePlan();
        if (best.makespan == NONE) {
            return NONE;
        }
        return what == 0 ? best.place[task] : best.start[task];
    }

    public int drawn(int seed, int rows) throws IllegalArgumentException {
        if (seed < 0 || seed > LAST_SEED || rows < 1 || rows > MOST_ROWS) {
            throw new IllegalArgumentException("seed or rows out of range");
        }
        return drawing.leastMakespan(seed, rows);
    }

    // ---- what if

    public boolean dominates(int a, int b) throws IndexOutOfBoundsException {
        refuseUnknown(a);
        refuseUnknown(b);
        return plant.outranks(a, b);
    }

    public int leastDue(int task) throws IndexOutOfBoundsException {
        refuseUnknown(task);
        if (!standsWithDue(task, LAST_DUE)) {
            return NONE;
        }
        // An earlier due date can only let the rules tell more, so halving finds the least one.
        int low = FIRST_DUE;
        int high = LAST_DUE;
        for (int step = 0; low < high && step < LAST_DUE; step++) {
            int middle = (low + high) / 2;
            if (standsWithDue(task, middle)) {
                high = middle;
            } else {
                low = middle + 1;
            }
        }
        return high;
    }

    public int lowerBound() {
        if (!standsWithin(LAST_DUE)) {
            return NONE;
        }
        // As in leastDue: less time can only let the rules tell more.
        int low = 0;
        int high = LAST_DUE;
        for (int step = 0; low < high && step < LAST_DUE; step++) {
            int middle = (low + high) / 2;
            if (standsWithin(middle)) {
                high = middle;
            } else {
                low = middle + 1;
            }
        }
        return high;
    }

    public boolean refutes(int a, int b) throws IndexOutOfBoundsException {
        refuseUnknown(a);
        refuseUnknown(b);
        if (a == b) {
            return true;
        }
        otherPlant.copyFrom(plant);
        otherPlant.setGiven(a, b, true);
        otherReasoning.run();
        return otherReasoning.contradiction;
    }

    public double decided() throws IllegalStateException {
        refuseContradiction();
        int pairs = plant.countPairs();
        if (pairs == 0) {
            return 1.0;
        }
        return (double) (pairs - reasoning.countOpenPairs()) / (double) pairs;
    }

    // ---- text

    public int append(int value) throws IllegalArgumentException, IllegalStateException {
        if (value < 0 || value > LAST_BYTE) {
            throw new IllegalArgumentException("byte out of range");
        }
        if (text.length >= TEXT_ROOM) {
            throw new IllegalStateException("the text is full");
        }
        text.put(value);
        return text.length;
    }

    public int clearText() {
        int before = text.length;
        text.length = 0;
        return before;
    }

    public int carryOut() {
        int fault = text.findFault();
        if (fault != NONE) {
            return -10 - fault;
        }
        beforeChange();
        text.rewind();
        int done = 0;
        for (int k = 0; k < TEXT_ROOM && text.readOrder() && follow(); k++) {
            done++;
        }
        return done;
    }

    // ---- state

    public int undo() throws IllegalStateException {
        if (history.count == 0) {
            throw new IllegalStateException("no saved state");
        }
        history.restoreInto(plant);
        forgetAnswers();
        return history.count;
    }

    public long digest() {
        think();
        long h = 3769;
        h = 31 * h + text.length;
        for (int what = 0; what < ASPECTS; what++) {
            h = 31 * h + number(what);
        }
        for (int t = 0; t < plant.tasks; t++) {
            for (int what = 0; what < ASPECTS; what++) {
                h = 31 * h + plant.aspect(t, what);
            }
            if (!reasoning.contradiction) {
                h = 31 * h + reasoning.first[t];
                h = 31 * h + reasoning.last[t];
                h = 31 * h + reasoning.behind[t];
            }
        }
        return 31 * h + history.count;
    }

    // ---- helpers of the face

    private static void refuse(int fault)
            throws IndexOutOfBoundsException, IllegalArgumentException, IllegalStateException {
        if (fault == NO_SUCH) {
            throw new IndexOutOfBoundsException("no such task or machine");
        }
        if (fault == OUT_OF_RANGE) {
            throw new IllegalArgumentException("argument out of range");
        }
        if (fault == NOT_NOW) {
            throw new IllegalStateException("not possible in this state");
        }
    }

    private void refuseUnknown(int task) throws IndexOutOfBoundsException {
        if (!plant.has(task)) {
            throw new IndexOutOfBoundsException("no such task");
        }
    }

    private void refuseContradiction() throws IllegalStateException {
        think();
        if (reasoning.contradiction) {
            throw new IllegalStateException("contradiction");
        }
    }

    private void beforeChange() {
        history.save(plant);
        forgetAnswers();
    }

    private void forgetAnswers() {
        reasoned = false;
        planned = false;
    }

    private void think() {
        if (!reasoned) {
            reasoning.run();
            reasoned = true;
        }
    }

    private void makePlan() {
        if (!planned) {
            think();
            best.search();
            planned = true;
        }
    }

    private int number(int what) {
        switch (what) {
            case 0: return plant.machines;
            case 1: return plant.tasks;
            case 2: return plant.countGiven();
            case 3: return plant.countPairs();
            default: break;
        }
        think();
        if (what == 4) {
            return reasoning.contradiction ? 1 : 0;
        }
        return reasoning.contradiction ? NONE : reasoning.countOpenPairs();
    }

    private boolean standsWithDue(int task, int due) {
        otherPlant.copyFrom(plant);
        otherPlant.due[task] = due;
        otherReasoning.run();
        return !otherReasoning.contradiction;
    }

    private boolean standsWithin(int end) {
        otherPlant.copyFrom(plant);
        for (int t = 0; t < otherPlant.tasks; t++) {
            otherPlant.due[t] = Math.min(otherPlant.due[t], end);
        }
        otherReasoning.run();
        return !otherReasoning.contradiction;
    }

    /** Carries out the order that was read last, unless it would throw; tells whether it did. */
    private boolean follow() {
        if (text.kind == 't') {
            if (plant.faultOfAdding(text.machine, text.release, text.due, text.duration) != FINE) {
                return false;
            }
            plant.add(text.machine, text.release, text.due, text.duration);
            return true;
        }
        boolean holds = text.kind == 'p';
        if (plant.faultOfGiving(text.taskA, text.taskB, holds) != FINE) {
            return false;
        }
        plant.setGiven(text.taskA, text.taskB, holds);
        return true;
    }

    private static boolean contains(int set, int task) {
        return (set >> task & 1) != 0;
    }

    /** The machines, their tasks and the given precedences. */
    private static final class Plant {
        int machines = 1;
        int tasks = 0;
        final int[] machine = new int[MOST_TASKS];
        final int[] release = new int[MOST_TASKS];
        final int[] due = new int[MOST_TASKS];
        final int[] duration = new int[MOST_TASKS];
        /** For each task the set of those that are given to precede it. */
        final int[] ahead = new int[MOST_TASKS];
        /** For each task the set of those that it is given to precede. */
        final int[] behind = new int[MOST_TASKS];

        void clear(int newMachines) {
            machines = newMachines;
            tasks = 0;
        }

        void copyFrom(Plant other) {
            machines = other.machines;
            tasks = other.tasks;
            for (int t = 0; t < MOST_TASKS; t++) {
                machine[t] = other.machine[t];
                release[t] = other.release[t];
                due[t] = other.due[t];
                duration[t] = other.duration[t];
                ahead[t] = other.ahead[t];
                behind[t] = other.behind[t];
            }
        }

        boolean has(int task) {
            return task >= 0 && task < tasks;
        }

        boolean areDates(int newRelease, int newDue) {
            return newRelease >= 0 && newRelease <= LAST_RELEASE && newDue >= FIRST_DUE && newDue <= LAST_DUE;
        }

        int faultOfAdding(int newMachine, int newRelease, int newDue, int newDuration) {
            if (newMachine < 0 || newMachine >= machines) {
                return NO_SUCH;
            }
            if (!areDates(newRelease, newDue) || newDuration < SHORTEST || newDuration > LONGEST) {
                return OUT_OF_RANGE;
            }
            return tasks >= MOST_TASKS ? NOT_NOW : FINE;
        }

        void add(int newMachine, int newRelease, int newDue, int newDuration) {
            if (tasks >= MOST_TASKS) {
                return;
            }
            machine[tasks] = newMachine;
            release[tasks] = newRelease;
            due[tasks] = newDue;
            duration[tasks] = newDuration;
            ahead[tasks] = 0;
            behind[tasks] = 0;
            tasks++;
        }

        int faultOfGiving(int a, int b, boolean holds) {
            if (!has(a) || !has(b)) {
                return NO_SUCH;
            }
            if (a == b) {
                return OUT_OF_RANGE;
            }
            if (isGiven(a, b) == holds || holds && leads(b, a)) {
                return NOT_NOW;
            }
            return FINE;
        }

        boolean isGiven(int a, int b) {
            return contains(behind[a], b);
        }

        void setGiven(int a, int b, boolean holds) {
            if (holds) {
                behind[a] |= 1 << b;
                ahead[b] |= 1 << a;
            } else {
                behind[a] &= ~(1 << b);
                ahead[b] &= ~(1 << a);
            }
        }

        /** Tells whether there is a row of given precedences from one task to another one. */
        boolean leads(int from, int to) {
            int reached = behind[from];
            for (int step = 0; step < tasks; step++) {
                int wider = reached;
                for (int t = 0; t < tasks; t++) {
                    if (contains(reached, t)) {
                        wider |= behind[t];
                    }
                }
                reached = wider;
            }
            return contains(reached, to);
        }

        int countGiven() {
            int count = 0;
            for (int t = 0; t < tasks; t++) {
                count += Integer.bitCount(behind[t]);
            }
            return count;
        }

        int countPairs() {
            int count = 0;
            for (int a = 0; a < tasks; a++) {
                for (int b = a + 1; b < tasks; b++) {
                    if (machine[a] == machine[b]) {
                        count++;
                    }
                }
            }
            return count;
        }

        /** Dominance as the document tells it. */
        boolean outranks(int a, int b) {
            if (a == b || machine[a] != machine[b] || duration[a] != duration[b]) {
                return false;
            }
            if (release[a] > release[b] || due[a] > due[b] || isGiven(b, a)) {
                return false;
            }
            int others = ~(1 << a | 1 << b);
            int aheadOfA = ahead[a] & others;
            int aheadOfB = ahead[b] & others;
            int behindA = behind[a] & others;
            int behindB = behind[b] & others;
            if ((aheadOfA & ~aheadOfB) != 0 || (behindB & ~behindA) != 0) {
                return false;
            }
            boolean alike = release[a] == release[b] && due[a] == due[b]
                    && aheadOfA == aheadOfB && behindA == behindB;
            return !alike || a < b;
        }

        int aspect(int task, int what) {
            switch (what) {
                case 0: return machine[task];
                case 1: return release[task];
                case 2: return due[task];
                case 3: return duration[task];
                case 4: return ahead[task];
                default: return behind[task];
            }
        }
    }

    /** First starts, last ends and precedences of a plant, by the four rules. */
    private static final class Reasoning {
        /** Each round but the last one changes a bound or a precedence, so some thousands would do. */
        private static final int MOST_ROUNDS = 1000000;
        /** Farther than any first start or last end can come. */
        private static final int FAR = 1000000;

        final Plant plant;
        boolean contradiction = false;
        final int[] first = new int[MOST_TASKS];
        final int[] last = new int[MOST_TASKS];
        /** For each task the set of those that it precedes. */
        final int[] behind = new int[MOST_TASKS];
        private final int[] members = new int[MOST_MACHINES];
        // For each set of tasks: its least first start, its greatest last end, its durations together.
        private final int[] setFirst = new int[ALL_SETS];
        private final int[] setLast = new int[ALL_SETS];
        private final int[] setWork = new int[ALL_SETS];

        Reasoning(Plant itsPlant) {
            plant = itsPlant;
        }

        void run() {
            load();
            contradiction = false;
            boolean changed = true;
            for (int round = 0; round < MOST_ROUNDS && changed && !contradiction; round++) {
                changed = followRows();
                changed = raiseFirsts() || changed;
                changed = lowerLasts() || changed;
                weighSets();
                contradiction = someTaskPrecedesItself() || someSetIsTooTight();
                changed = orderByPairs() || changed;
                changed = orderBySets() || changed;
            }
        }

        private void load() {
            for (int m = 0; m < MOST_MACHINES; m++) {
                members[m] = 0;
            }
            for (int t = 0; t < plant.tasks; t++) {
                first[t] = plant.release[t];
                last[t] = plant.due[t];
                behind[t] = plant.behind[t];
                members[plant.machine[t]] |= 1 << t;
            }
        }

        /** Rule 1. */
        private boolean followRows() {
            boolean changed = false;
            for (int b = 0; b < plant.tasks; b++) {
                for (int a = 0; a < plant.tasks; a++) {
                    if (contains(behind[a], b)) {
                        changed = putBehind(a, behind[b]) || changed;
                    }
                }
            }
            return changed;
        }

        /** Rule 2, for all pairs. */
        private boolean orderByPairs() {
            boolean changed = false;
            for (int a = 0; a < plant.tasks; a++) {
                for (int b = 0; b < plant.tasks; b++) {
                    if (pairTells(a, b)) {
                        changed = putBehind(a, 1 << b) || changed;
                    }
                }
            }
            return changed;
        }

        /** Rule 3, for all tasks and sets. */
        private boolean orderBySets() {
            boolean changed = false;
            for (int i = 0; i < plant.tasks; i++) {
                int others = members[plant.machine[i]] & ~(1 << i);
                for (int set = 1; set <= others; set++) {
                    if ((set & ~others) != 0) {
                        continue;
                    }
                    if (setTellsBefore(set, i)) {
                        changed = putBehindAll(set, i) || changed;
                    }
                    if (setTellsBehind(set, i)) {
                        changed = putBehind(i, set) || changed;
                    }
                }
            }
            return changed;
        }

        /** Rule 4 for the tasks that precede. */
        private boolean raiseFirsts() {
            boolean changed = false;
            for (int i = 0; i < plant.tasks; i++) {
                int ahead = aheadOf(i);
                for (int j = 0; j < plant.tasks; j++) {
                    if (!contains(ahead, j)) {
                        continue;
                    }
                    // Of the sets with this least first start, the one with all that start no earlier tells most.
                    int work = 0;
                    for (int k = 0; k < plant.tasks; k++) {
                        if (contains(ahead, k) && plant.machine[k] == plant.machine[j] && first[k] >= first[j]) {
                            work += plant.duration[k];
                        }
                    }
                    if (first[j] + work > first[i]) {
                        first[i] = first[j] + work;
                        changed = true;
                    }
                }
            }
            return changed;
        }

        /** Rule 4 for the tasks that are preceded. */
        private boolean lowerLasts() {
            boolean changed = false;
            for (int i = 0; i < plant.tasks; i++) {
                for (int j = 0; j < plant.tasks; j++) {
                    if (!contains(behind[i], j)) {
                        continue;
                    }
                    int work = 0;
                    for (int k = 0; k < plant.tasks; k++) {
                        if (contains(behind[i], k) && plant.machine[k] == plant.machine[j] && last[k] <= last[j]) {
                            work += plant.duration[k];
                        }
                    }
                    if (last[j] - work < last[i]) {
                        last[i] = last[j] - work;
                        changed = true;
                    }
                }
            }
            return changed;
        }

        private boolean putBehind(int a, int set) {
            boolean changed = (set & ~behind[a]) != 0;
            behind[a] |= set;
            return changed;
        }

        private boolean putBehindAll(int set, int i) {
            boolean changed = false;
            for (int t = 0; t < plant.tasks; t++) {
                if (contains(set, t)) {
                    changed = putBehind(t, 1 << i) || changed;
                }
            }
            return changed;
        }

        private int aheadOf(int i) {
            int ahead = 0;
            for (int t = 0; t < plant.tasks; t++) {
                if (contains(behind[t], i)) {
                    ahead |= 1 << t;
                }
            }
            return ahead;
        }

        private void weighSets() {
            setFirst[0] = FAR;
            setLast[0] = -FAR;
            setWork[0] = 0;
            for (int t = 0; t < plant.tasks; t++) {
                int alone = 1 << t;
                for (int rest = 0; rest < alone; rest++) {
                    setFirst[alone | rest] = Math.min(setFirst[rest], first[t]);
                    setLast[alone | rest] = Math.max(setLast[rest], last[t]);
                    setWork[alone | rest] = setWork[rest] + plant.duration[t];
                }
            }
        }

        private boolean someTaskPrecedesItself() {
            for (int t = 0; t < plant.tasks; t++) {
                if (contains(behind[t], t)) {
                    return true;
                }
            }
            return false;
        }

        /** A task that does not fit between its own bounds is such a set, too. */
        private boolean someSetIsTooTight() {
            for (int m = 0; m < MOST_MACHINES; m++) {
                for (int set = 1; set <= members[m]; set++) {
                    if ((set & ~members[m]) == 0 && setFirst[set] + setWork[set] > setLast[set]) {
                        return true;
                    }
                }
            }
            return false;
        }

        /** Rule 2: whether it tells that a precedes b. */
        private boolean pairTells(int a, int b) {
            return a != b && plant.machine[a] == plant.machine[b]
                    && first[b] + plant.duration[b] + plant.duration[a] > last[a];
        }

        /** Rule 3: whether the set, of other tasks on the machine of i, all precedes i. */
        private boolean setTellsBefore(int set, int i) {
            int both = set | 1 << i;
            return setFirst[both] + setWork[both] > setLast[set];
        }

        /** Rule 3: whether i precedes all of the set, of other tasks on its machine. */
        private boolean setTellsBehind(int set, int i) {
            int both = set | 1 << i;
            return setFirst[set] + setWork[both] > setLast[both];
        }

        boolean orders(int a, int b) {
            return contains(behind[a], b);
        }

        int reason(int a, int b) {
            if (!orders(a, b)) {
                return NONE;
            }
            if (plant.isGiven(a, b)) {
                return 0;
            }
            if (pairTells(a, b)) {
                return 1;
            }
            return leastSet(a, b) != NONE ? 2 : 3;
        }

        /** The least set by which rule 3 tells that a precedes b. */
        int leastSet(int a, int b) {
            if (a == b || plant.machine[a] != plant.machine[b]) {
                return NONE;
            }
            int all = members[plant.machine[a]];
            for (int set = 1; set <= all; set++) {
                if ((set & ~all) != 0 || contains(set, a) == contains(set, b)) {
                    continue;
                }
                if (contains(set, a) ? setTellsBefore(set, b) : setTellsBehind(set, a)) {
                    return set;
                }
            }
            return NONE;
        }

        int countOpenPairs() {
            int count = 0;
            for (int a = 0; a < plant.tasks; a++) {
                for (int b = a + 1; b < plant.tasks; b++) {
                    if (plant.machine[a] == plant.machine[b] && !orders(a, b) && !orders(b, a)) {
                        count++;
                    }
                }
            }
            return count;
        }
    }

    /** A plan that grows task by task. */
    private static final class Plan {
        final Plant plant;
        final int[] end = new int[MOST_TASKS];
        /** For each machine the end of its last task. */
        final int[] free = new int[MOST_MACHINES];

        Plan(Plant itsPlant) {
            plant = itsPlant;
        }

        void restart() {
            for (int m = 0; m < MOST_MACHINES; m++) {
                free[m] = 0;
            }
        }

        /** The earliest end of a task behind the taken ones. */
        int earliestEnd(int task, int taken) {
            int start = Math.max(plant.release[task], free[plant.machine[task]]);
            int ahead = plant.ahead[task] & taken;
            for (int t = 0; t < plant.tasks; t++) {
                if (contains(ahead, t)) {
                    start = Math.max(start, end[t]);
                }
            }
            return start + plant.duration[task];
        }

        void place(int task, int itsEnd) {
            end[task] = itsEnd;
            free[plant.machine[task]] = itsEnd;
        }

        int latestEnd() {
            int latest = 0;
            for (int m = 0; m < MOST_MACHINES; m++) {
                latest = Math.max(latest, free[m]);
            }
            return latest;
        }
    }

    /** The search for the best plan. */
    private static final class BestPlan {
        int makespan = NONE;
        final int[] place = new int[MOST_TASKS];
        final int[] start = new int[MOST_TASKS];
        private final Plant plant;
        private final Reasoning reasoning;
        private final Plan plan;
        private final int[] row = new int[MOST_TASKS];
        private final int[] ahead = new int[MOST_TASKS];
        private final int[] earliest = new int[MOST_TASKS];
        /** The greatest makespan that would still be better than the best one. */
        private int limit = LAST_DUE;

        BestPlan(Plant itsPlant, Reasoning itsReasoning) {
            plant = itsPlant;
            reasoning = itsReasoning;
            plan = new Plan(itsPlant);
        }

        void search() {
            makespan = NONE;
            limit = LAST_DUE;
            if (reasoning.contradiction) {
                return;
            }
            for (int t = 0; t < plant.tasks; t++) {
                ahead[t] = reasoning.aheadOf(t);
            }
            plan.restart();
            extend(this, 0, 0);
        }

        /** Tries all rows that begin with the taken tasks, in ascending order. */
        private static void extend(BestPlan search, int count, int taken) {
            Plant plant = search.plant;
            if (count >= plant.tasks || count >= MOST_TASKS) {
                search.keepIfBetter();
                return;
            }
            if (search.isHopeless(taken)) {
                return;
            }
            for (int t = 0; t < plant.tasks; t++) {
                // A possible plan keeps the precedences by reasoning, too.
                if (contains(taken, t) || (search.ahead[t] & ~taken) != 0) {
                    continue;
                }
                int freeBefore = search.plan.free[plant.machine[t]];
                search.row[count] = t;
                search.plan.place(t, search.plan.earliestEnd(t, taken));
                extend(search, count + 1, taken | 1 << t);
                search.plan.free[plant.machine[t]] = freeBefore;
            }
        }

        /** Tells whether no row that begins with the taken tasks can make a better possible plan. */
        private boolean isHopeless(int taken) {
            if (plan.latestEnd() > limit) {
                return true;
            }
            for (int t = 0; t < plant.tasks; t++) {
                if (contains(taken, t)) {
                    continue;
                }
                earliest[t] = plan.earliestEnd(t, taken);
                // So no task is ever placed behind its last end.
                if (earliest[t] > reasoning.last[t]) {
                    return true;
                }
                earliest[t] -= plant.duration[t];
            }
            for (int t = 0; t < plant.tasks; t++) {
                if (!contains(taken, t) && earliest[t] + workFrom(t, taken) > limit) {
                    return true;
                }
            }
            return false;
        }

        /** The durations of the tasks that are still to come on the machine of the task and start no earlier. */
        private int workFrom(int task, int taken) {
            int work = 0;
            for (int t = 0; t < plant.tasks; t++) {
                if (!contains(taken, t) && plant.machine[t] == plant.machine[task] && earliest[t] >= earliest[task]) {
                    work += plant.duration[t];
                }
            }
            return work;
        }

        private void keepIfBetter() {
            int reached = plan.latestEnd();
            if (reached > limit) {
                return;
            }
            makespan = reached;
            limit = reached - 1;
            for (int k = 0; k < plant.tasks; k++) {
                int task = row[k];
                place[task] = k;
                start[task] = plan.end[task] - plant.duration[task];
            }
        }
    }

    /** The drawing of rows. */
    private static final class Drawing {
        private final Plant plant;
        private final Plan plan;
        private long x = 0;

        Drawing(Plant itsPlant) {
            plant = itsPlant;
            plan = new Plan(itsPlant);
        }

        int leastMakespan(int seed, int rows) {
            x = seed;
            int least = NONE;
            for (int row = 0; row < rows; row++) {
                int makespan = drawRow();
                if (makespan != NONE && (least == NONE || makespan < least)) {
                    least = makespan;
                }
            }
            return least;
        }

        /** The makespan of one more drawn row, NONE if its plan is not possible. */
        private int drawRow() {
            plan.restart();
            boolean possible = true;
            int taken = 0;
            for (int k = 0; k < plant.tasks; k++) {
                int task = drawTask(taken);
                int end = plan.earliestEnd(task, taken);
                plan.place(task, end);
                taken |= 1 << task;
                possible = possible && end <= plant.due[task];
            }
            return possible ? plan.latestEnd() : NONE;
        }

        private int drawTask(int taken) {
            x = (x * 1103515245L + 12345L) % 2147483648L;
            int ready = 0;
            for (int t = 0; t < plant.tasks; t++) {
                if (!contains(taken, t) && (plant.ahead[t] & ~taken) == 0) {
                    ready |= 1 << t;
                }
            }
            int number = Integer.bitCount(ready);
            long index = number > 0 ? x / 65536L % number : 0;
            for (int t = 0; t < plant.tasks; t++) {
                if (contains(ready, t)) {
                    if (index == 0) {
                        return t;
                    }
                    index--;
                }
            }
            return 0;
        }
    }

    /** The saved states, the oldest first. */
    private static final class History {
        int count = 0;
        private final Plant[] saved = new Plant[MOST_SAVED];

        History() {
            for (int k = 0; k < MOST_SAVED; k++) {
                saved[k] = new Plant();
            }
        }

        void save(Plant plant) {
            if (count >= MOST_SAVED) {
                Plant oldest = saved[0];
                for (int k = 1; k < MOST_SAVED; k++) {
                    saved[k - 1] = saved[k];
                }
                saved[MOST_SAVED - 1] = oldest;
                count = MOST_SAVED - 1;
            }
            saved[count].copyFrom(plant);
            count++;
        }

        void restoreInto(Plant plant) {
            if (count > 0) {
                count--;
                plant.copyFrom(saved[count]);
            }
        }
    }

    /** The text and the reading of its orders. */
    private static final class OrderText {
        private static final int END = -1;

        int length = 0;
        /** The order that was read last: 't', 'p' or 'q', and its numbers. */
        int kind = 0;
        int machine = 0;
        int release = 0;
        int due = 0;
        int duration = 0;
        int taskA = 0;
        int taskB = 0;
        private final byte[] bytes = new byte[TEXT_ROOM];
        private int at = 0;
        private int fault = NONE;

        void put(int value) {
            if (length < TEXT_ROOM) {
                bytes[length] = (byte) value;
                length++;
            }
        }

        /** The syntax error position, NONE without a syntax error. */
        int findFault() {
            rewind();
            for (int k = 0; k < TEXT_ROOM && readOrder(); k++) {
                continue;
            }
            return fault;
        }

        void rewind() {
            at = 0;
            fault = NONE;
        }

        /** Reads the next order; false if there is none any more, or a syntax error. */
        boolean readOrder() {
            if (at >= length || fault != NONE) {
                return false;
            }
            kind = peek();
            if (kind == 't') {
                readTask();
            } else if (kind == 'p' || kind == 'q') {
                at++;
                taskA = readDigit(MOST_TASKS - 1);
                taskB = readDigit(MOST_TASKS - 1);
            } else {
                fault = at;
            }
            expect(';');
            return fault == NONE;
        }

        private void readTask() {
            at++;
            machine = readDigit(MOST_MACHINES - 1);
            expect(':');
            release = readNumber(3, 0, LAST_RELEASE);
            expect('-');
            due = readNumber(3, FIRST_DUE, LAST_DUE);
            expect('*');
            duration = readNumber(2, SHORTEST, LONGEST);
        }

        private int peek() {
            return at >= 0 && at < length && at < TEXT_ROOM ? bytes[at] : END;
        }

        // After a syntax error the readers do nothing more, so the first one stays.

        private void expect(int value) {
            if (fault != NONE) {
                return;
            }
            if (peek() == value) {
                at++;
            } else {
                fault = at;
            }
        }

        private int readDigit(int greatest) {
            int digit = peek() - '0';
            if (fault != NONE) {
                return 0;
            }
            if (digit < 0 || digit > greatest) {
                fault = at;
                return 0;
            }
            at++;
            return digit;
        }

        private int readNumber(int mostDigits, int least, int greatest) {
            if (fault != NONE) {
                return 0;
            }
            int begin = at;
            int number = 0;
            for (int k = 0; k < mostDigits && isDigit(peek()); k++) {
                number = 10 * number + (peek() - '0');
                at++;
            }
            if (at == begin || isDigit(peek())) {
                fault = at;
            } else if (number < least || number > greatest) {
                fault = begin;
            }
            return number;
        }

        private static boolean isDigit(int value) {
            return value >= '0' && value <= '9';
        }
    }
}
