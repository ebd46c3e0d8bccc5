/** "Terms", the text, and promises 23 to 25, sentence by sentence. */
public final class TextEdgeTests {
    public static void main(String[] args) {
        append();
        clearText();
        mostBytes();
        semicolons();
        machineDigits();
        releases();
        dues();
        durations();
        taskDigits();
        noSpaces();
        noOrders();
        zerosInFront();
        firstByteThatCannotStand();
        endsTooEarly();
        outOfRangeWhateverFollows();
        everyByteEverywhere();
        firstFaultOfSeveral();
        orderThatWouldThrow();
        textStays();
        oneSavedState();
        nothingChanges();
        Check.end();
    }

    private static EdgeTasks text(EdgeTasks x, String text) {
        Check.write(x, text);
        return x;
    }

    private static EdgeTasks text(String text) {
        return text(Check.machines(3), text);
    }

    private static void carried(String text, int due) {
        Check.same("carryOut of " + text, text(text).carryOut(), due);
    }

    private static void fault(String text, int position) {
        carried(text, -10 - position);
    }

    private static String repeated(String part, int count) {
        StringBuilder s = new StringBuilder();
        for (int k = 0; k < count; k++) {
            s.append(part);
        }
        return s.toString();
    }

    private static void append() {
        Check.sentence("Promise 23: returns the new length of the text");
        EdgeTasks x = new EdgeTasks();
        for (int k = 1; k <= 100; k++) {
            Check.same("length", x.append(k), k);
        }
        Check.sentence("Promise 23: IllegalStateException if the text has 100 bytes");
        Check.badState(x, "byte 101", () -> x.append('t'));
        x.clearText();
        Check.same("then again", x.append(127), 1);
        Check.sentence("Promise 23: a byte, 0 to 127");
        for (int v = 0; v <= 127; v++) {
            EdgeTasks y = new EdgeTasks();
            Check.same("append(" + v + ")", y.append(v), 1);
            Check.same("carryOut of " + v, y.carryOut(), v == 't' || v == 'p' || v == 'q' ? -11 : -10);
        }
    }

    private static void clearText() {
        Check.sentence("Promise 24: returns the length that it had");
        EdgeTasks x = new EdgeTasks();
        Check.same("a new text", x.clearText(), 0);
        for (int length = 0; length <= 100; length++) {
            Check.write(x, repeated("x", length));
            Check.same("length", x.clearText(), length);
        }
        Check.sentence("Promise 24: empties the text");
        Check.same("then", x.clearText(), 0);
        Check.same("no orders", x.carryOut(), 0);
    }

    private static void mostBytes() {
        Check.sentence("Terms, the text has at most 100 bytes");
        String tasks = "t0:0-9*1;t0:0-9*1;";
        String full = tasks + repeated("p01;q01;", 10);
        carried(full, 22);
        carried(full.substring(0, 94) + "t0:1", -10 - 98);
        full = tasks + repeated("p01;q01;", 9) + "t0:00-9*1;";
        Check.same("length", full.length(), 100);
        carried(full, 21);
        fault(full.substring(0, 99) + "x", 99);
        fault(full.substring(0, 99) + "1", 100);
        fault("x" + full.substring(1), 0);
        fault(repeated("p01;", 24) + "p01", 99);
        fault(repeated("p01;", 24) + "t0:1", 100);
        fault(repeated("p01;", 24) + "t0:;", 99);
        fault(repeated("p01;", 23) + "t0:0-401", 97);
        fault(repeated("p01;", 23) + "t0:0-040", 100);
        fault(repeated("q01;", 23) + "t0:0-9*1", 100);
        EdgeTasks x = text(text(tasks.substring(9)), repeated("q10;", 22));
        Check.same("97 bytes", x.append('p'), 98);
        Check.same("too early", x.carryOut(), -10 - 98);
    }

    private static void semicolons() {
        Check.sentence("Terms, orders are terminated by a semicolon each");
        carried("t0:0-9*1;t0:0-9*1;p01;q01;", 4);
        fault("t0:0-9*1", 8);
        fault("t0:0-9*1;t0:0-9*1", 17);
        fault("p01", 3);
        fault("q01", 3);
        fault("p01q01;", 3);
        fault("t0:0-9*1t0:0-9*1;", 8);
        fault("t0:0-9*1;;", 9);
        fault(";", 0);
        fault(";p01;", 0);
        fault("p01,", 3);
        fault("p01:", 3);
    }

    private static void machineDigits() {
        Check.sentence("Terms, a machine digit 0 to 2");
        for (int machine = 0; machine <= 9; machine++) {
            String order = "t" + machine + ":0-9*1;";
            EdgeTasks x = text(order);
            Check.same(order, x.carryOut(), machine <= 2 ? 1 : -11);
            if (machine <= 2) {
                Check.same("machine", x.task(0, 0), machine);
            }
        }
        fault("t/:0-9*1;", 1);
        fault("t:0-9*1;", 1);
        fault("t00:0-9*1;", 2);
        Check.sentence("Terms, a machine digit 0 to 2, even if there are less machines");
        Check.same("machine 2 of 1", text(new EdgeTasks(), "t2:0-9*1;").carryOut(), 0);
        Check.same("machine 1 of 1", text(new EdgeTasks(), "t1:0-9*1;").carryOut(), 0);
        Check.same("machine 3", text(new EdgeTasks(), "t3:0-9*1;").carryOut(), -11);
    }

    private interface Order {
        String with(String number);
    }

    /** Every number of one to four digits in its place, with the value of what, or the fault that is due. */
    private static void numbers(Order order, int at, int what, int[] range, int digits) {
        int[] powers = {1, 10, 100, 1000, 10000};
        for (int length = 1; length <= digits + 1; length++) {
            int step = length > digits ? 37 : 1;
            for (int number = 0; number < powers[length]; number += step) {
                String digitsOfIt = String.valueOf(powers[length] + number).substring(1);
                EdgeTasks x = text(order.with(digitsOfIt));
                int due = length > digits ? -10 - at - digits
                        : number < range[0] || number > range[1] ? -10 - at : 1;
                Check.same(order.with(digitsOfIt), x.carryOut(), due);
                Check.same("tasks", x.value(1), due == 1 ? 1 : 0);
                if (due == 1) {
                    Check.same("number of " + order.with(digitsOfIt), x.task(0, what), number);
                }
            }
        }
        fault(order.with(""), at);
    }

    private static void releases() {
        Check.sentence("Terms, a release of one to three digits, 0 to 200");
        numbers(n -> "t0:" + n + "-9*1;", 3, 1, new int[] {0, 200}, 3);
    }

    private static void dues() {
        Check.sentence("Terms, a due date of one to three digits, 1 to 400");
        numbers(n -> "t0:0-" + n + "*1;", 5, 2, new int[] {1, 400}, 3);
    }

    private static void durations() {
        Check.sentence("Terms, a duration of one or two digits, 1 to 50");
        numbers(n -> "t0:0-9*" + n + ";", 7, 3, new int[] {1, 50}, 2);
    }

    private static void taskDigits() {
        Check.sentence("Terms, two task digits 0 to 7");
        for (int a = 0; a <= 9; a++) {
            for (int b = 0; b <= 9; b++) {
                int due = a > 7 ? -11 : b > 7 ? -12 : 0;
                carried("p" + a + b + ";", due);
                carried("q" + a + b + ";", due);
            }
        }
        fault("p/0;", 1);
        fault("q0/;", 2);
        fault("p;", 1);
        fault("p0;", 2);
        fault("q000;", 3);
        EdgeTasks x = Check.machines(1);
        for (int t = 0; t < 8; t++) {
            x.addTask(0, 0, 9, 1);
        }
        Check.sentence("Terms, p gives a precedence of the first one before the second one, q takes it away");
        Check.same("carried out", text(x, "p07;p71;q07;").carryOut(), 3);
        Check.same("behind 7", x.task(7, 5), 2);
        Check.same("before 7", x.task(7, 4), 0);
    }

    private static void noSpaces() {
        Check.sentence("Terms, there are no spaces");
        String text = "t0:10-20*15;p01;q01;";
        for (int k = 0; k <= text.length(); k++) {
            fault(text.substring(0, k) + " " + text.substring(k), k);
        }
    }

    private static void noOrders() {
        Check.sentence("Terms, there may be no orders");
        EdgeTasks x = new EdgeTasks();
        Check.same("empty text", x.carryOut(), 0);
        Check.same("a saved state", x.undo(), 0);
        fault(" ", 0);
        fault("\n", 0);
        fault("\0", 0);
    }

    private static void zerosInFront() {
        Check.sentence("Terms, numbers can have zeros in front");
        EdgeTasks x = text("t0:000-001*01;t1:00-04*1;t2:020-040*05;");
        Check.same("carried out", x.carryOut(), 3);
        long[][] due = {{0, 1, 1}, {0, 4, 1}, {20, 40, 5}};
        for (int t = 0; t < 3; t++) {
            for (int what = 1; what <= 3; what++) {
                Check.same("task(" + t + ", " + what + ")", x.task(t, what), due[t][what - 1]);
            }
        }
        fault("t0:0000-1*1;", 6);
        fault("t0:0200-1*1;", 6);
        fault("t0:0-0001*1;", 8);
        fault("t0:0-1*001;", 9);
        fault("t00:0-1*1;", 2);
    }

    private static void firstByteThatCannotStand() {
        Check.sentence("Terms, the index of the first byte that cannot stand where it stands");
        String text = "t0:10-20*15;p01;q01;";
        for (int k = 0; k < text.length(); k++) {
            fault(text.substring(0, k) + "x", k);
            fault(text.substring(0, k) + "x" + text.substring(k + 1), k);
        }
        fault(text + "x", text.length());
        Check.sentence("Terms, a digit too many, too");
        fault("t0:1000-20*15;", 6);
        fault("t0:2000-20*15;", 6);
        fault("t0:9999", 6);
        fault("t0:10-2000*15;", 9);
        fault("t0:10-9999", 9);
        fault("t0:10-20*150;", 11);
        fault("t0:10-20*999", 11);
        fault("t0:10-20*15;p011;", 15);
        fault("t0:10-20*15;p0111", 15);
    }

    private static void endsTooEarly() {
        Check.sentence("Terms, the length of the text if the text ends too early");
        String text = "t0:100-200*15;p01;q01;";
        for (int length = 1; length < text.length(); length++) {
            if (length == 14 || length == 18) {
                continue;
            }
            fault(text.substring(0, length), length);
        }
        carried("t0:100-200*15;", 1);
    }

    /** Whichever byte that is no digit follows the number, and the end of the text. */
    private static void outOfRangeWhateverFollows() {
        Check.sentence("Terms, a number out of its range: the index of its first digit");
        String[] begun = {"t0:201", "t0:999", "t0:0-0", "t0:0-00", "t0:0-000", "t0:0-401", "t0:0-999",
            "t0:0-9*0", "t0:0-9*00", "t0:0-9*51", "t0:0-9*99"};
        int[] at = {3, 3, 5, 5, 5, 5, 5, 7, 7, 7, 7};
        int[] most = {3, 3, 3, 3, 3, 3, 3, 2, 2, 2, 2};
        for (int k = 0; k < begun.length; k++) {
            fault(begun[k], at[k]);
            for (char c = 0; c <= 127; c++) {
                if (c < '0' || c > '9') {
                    fault(begun[k] + c, at[k]);
                }
            }
            if (begun[k].length() - at[k] == most[k]) {
                fault(begun[k] + "0", at[k] + most[k]);
            }
        }
        Check.sentence("Terms, a number out of its range, in a later order");
        fault("t0:0-9*1;p01;t1:201-9*1;", 16);
        Check.sentence("Terms, a number out of its range is only found behind its last digit");
        fault("t0:0-9*0", 7);
        carried("t0:0-9*05;", 1);
        carried("t0:0-001*1;", 1);
        carried("t0:0-010*1;", 1);
    }

    /** Each byte put in and put in place of each byte, compared with the reference's reading of the form. */
    private static void everyByteEverywhere() {
        Check.sentence("Terms, the syntax error position, for each byte in each place");
        for (String text : new String[] {"t1:10-20*15;p01;q10;", "t2:200-400*50;", "p76;t0:0-1*1;"}) {
            for (int k = 0; k <= text.length(); k++) {
                for (char c = 0; c <= 127; c++) {
                    syntax(text.substring(0, k) + c + text.substring(k));
                    syntax(text.substring(0, k) + c + text.substring(Math.min(k + 1, text.length())));
                }
            }
        }
    }

    private static void syntax(String text) {
        int fault = Reference.syntaxFault(text);
        int got = text(text).carryOut();
        if (fault == -1) {
            Check.isTrue("carryOut of " + text + " answered " + got + ", no fault is due", got >= 0);
        } else {
            Check.same("carryOut of " + text, got, -10 - fault);
        }
    }

    private static void firstFaultOfSeveral() {
        Check.sentence("Terms, the first of several faults");
        fault("t3:201-401*51x", 1);
        fault("t0:201-401*51x", 3);
        fault("t0:200-401*51x", 7);
        fault("t0:200-400*51x", 11);
        fault("t0:200-400*50x", 13);
        fault("t0:201x", 3);
        fault("t0:2010x", 6);
        fault("p88x", 1);
        fault("p78x", 2);
        fault("p77x", 3);
    }

    private static EdgeTasks four() {
        EdgeTasks x = Check.machines(2);
        for (int t = 0; t < 4; t++) {
            x.addTask(0, 0, 9, 1);
        }
        x.give(0, 1, true);
        x.give(1, 2, true);
        return x;
    }

    /** "p23;" and "t0:0-9*1;" could be carried out, but do not come behind the order that would throw. */
    private static void stopsAt(EdgeTasks x, String order) {
        int tasks = x.value(1);
        Check.write(x, "p03;" + order + "p23;t0:0-9*1;");
        Check.same("carryOut of " + order, x.carryOut(), 1);
        Check.same("tasks", x.value(1), tasks);
        Check.same("given", x.value(2), 3);
        Check.same("the order before is carried out", x.task(0, 5), 10);
        Check.same("not the order behind", x.task(2, 5), 0);
    }

    private static void orderThatWouldThrow() {
        Check.sentence("Promise 25: up to the first one that would throw an exception");
        stopsAt(four(), "t2:0-9*1;");
        stopsAt(four(), "p40;");
        stopsAt(four(), "p04;");
        stopsAt(four(), "p47;");
        stopsAt(four(), "p00;");
        stopsAt(four(), "p01;");
        stopsAt(four(), "p10;");
        stopsAt(four(), "p20;");
        stopsAt(four(), "q40;");
        stopsAt(four(), "q04;");
        stopsAt(four(), "q33;");
        stopsAt(four(), "q02;");
        stopsAt(four(), "q10;");
        EdgeTasks x = four();
        for (int t = 4; t < 8; t++) {
            x.addTask(1, 0, 9, 1);
        }
        stopsAt(x, "t0:0-9*1;");
        Check.sentence("Promise 25: each order is carried out behind the ones before");
        x = four();
        Check.same("carryOut", text(x, "t1:5-9*1;p42;q12;p21;q21;p12;").carryOut(), 6);
        Check.same("before 2", x.task(2, 4), 18);
        x = four();
        Check.same("carryOut, the first one throws", text(x, "q20;q01;").carryOut(), 0);
        Check.same("given", x.value(2), 2);
    }

    private static void textStays() {
        Check.sentence("Promise 25: the text stays as it is");
        EdgeTasks x = text("t0:0-9*1;");
        Check.same("once", x.carryOut(), 1);
        Check.same("twice", x.carryOut(), 1);
        Check.same("tasks", x.value(1), 2);
        Check.write(x, "p01;");
        Check.same("with more", x.carryOut(), 2);
        Check.same("length", x.clearText(), 13);
        x = text("p9");
        Check.same("with a fault", x.carryOut(), -11);
        Check.same("with the same fault", x.carryOut(), -11);
        Check.same("length with a fault", x.clearText(), 2);
    }

    private static void oneSavedState() {
        Check.sentence("Promise 25: one saved state, also if no order is carried out");
        EdgeTasks x = new EdgeTasks();
        long empty = x.digest();
        Check.same("three orders", text(x, "t0:0-9*1;t0:0-9*1;p01;").carryOut(), 3);
        Check.same("undo", x.undo(), 0);
        x.clearText();
        Check.same("all undone at once", x.digest(), empty);
        Check.same("none of one", text(x, "p01;").carryOut(), 0);
        Check.same("undo", x.undo(), 0);
        x.clearText();
        Check.same("no orders", x.carryOut(), 0);
        Check.same("undo", x.undo(), 0);
        Check.badState(x, "undo once more", () -> x.undo());
        Check.sentence("Promise 25: the oldest of four saved states is dropped by it");
        for (int k = 0; k < 4; k++) {
            x.addTask(0, k, 9, 1);
        }
        x.carryOut();
        Check.same("saved states", Check.undoAll(x), 4);
        Check.same("tasks", x.value(1), 1);
    }

    private static void nothingChanges() {
        Check.sentence("Promise 25: if there is a syntax error, nothing changes");
        EdgeTasks x = text(four(), "t0:0-9*1;p23;x");
        String before = Check.traceOf(text(four(), "t0:0-9*1;p23;x"));
        Check.same("carryOut", x.carryOut(), -10 - 13);
        Check.same("all that stands", Check.traceOf(x), before);
        Check.sentence("Promise 25: a syntax error behind an order that would throw");
        carried("p77;x", -10 - 4);
    }
}
