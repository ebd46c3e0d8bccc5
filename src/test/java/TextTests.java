/** Promises 23 to 25: append, clearText, carryOut. */
public final class TextTests {
    public static void main(String[] args) {
        append();
        clearText();
        orders();
        ordersThatThrow();
        oneSavedState();
        bytesThatCannotStand();
        textsThatEndTooEarly();
        numbersOutOfRange();
        bytesOfAnEarlierText();
        fullText();
        Check.end();
    }

    private static void append() {
        EdgeTasks x = new EdgeTasks();
        Check.badArgument(x, "append(-1)", () -> x.append(-1));
        Check.badArgument(x, "append(128)", () -> x.append(128));
        Check.same("append(0)", x.append(0), 1);
        Check.same("append(127)", x.append(127), 2);
        for (int k = 3; k <= 100; k++) {
            Check.same("append", x.append('t'), k);
        }
        Check.badState(x, "append to a full text", () -> x.append('t'));
        Check.badArgument(x, "append(128) to a full text", () -> x.append(128));
        Check.badState(x, "append saves no state", () -> x.undo());
    }

    private static void clearText() {
        EdgeTasks x = new EdgeTasks();
        Check.same("empty", x.clearText(), 0);
        Check.write(x, "p01;");
        x.addTask(0, 0, 9, 1);
        Check.write(x, "x");
        x.undo();
        Check.same("undo leaves the text", x.clearText(), 5);
        Check.same("empty then", x.clearText(), 0);
        Check.badState(x, "clearText saves no state", () -> x.undo());
        Check.same("from the beginning again", x.append('q'), 1);
    }

    private static int carriedOut(EdgeTasks x, String text) {
        x.clearText();
        Check.write(x, text);
        return x.carryOut();
    }

    private static void orders() {
        EdgeTasks x = Check.machines(3);
        Check.same("no orders", carriedOut(x, ""), 0);
        Check.same("tasks", carriedOut(x, "t2:0-1*1;t0:200-400*50;t1:007-020*03;"), 3);
        long[][] due = {{2, 0, 1, 1}, {0, 200, 400, 50}, {1, 7, 20, 3}};
        for (int t = 0; t < 3; t++) {
            for (int what = 0; what < 4; what++) {
                Check.same("task " + t + " of the text, " + what, x.task(t, what), due[t][what]);
            }
        }
        Check.same("precedences", carriedOut(x, "p20;p01;q20;"), 3);
        Check.same("given", x.task(0, 5), 2);
        Check.same("taken away", x.task(2, 5), 0);
        Check.same("the text stays", x.clearText(), 12);
    }

    private static void ordersThatThrow() {
        EdgeTasks x = Check.machines(2);
        Check.same("no such machine", carriedOut(x, "t1:0-9*1;t2:0-9*1;t0:0-9*1;"), 1);
        Check.same("one task", x.value(1), 1);
        Check.same("no such task", carriedOut(x, "t0:0-9*1;p01;q12;p10;"), 2);
        Check.same("given twice", carriedOut(x, "p01;"), 0);
        Check.same("against a given one", carriedOut(x, "p10;"), 0);
        Check.same("taken away twice", carriedOut(x, "q01;q01;p01;"), 1);
        Check.same("not given any more", x.value(2), 0);
        Check.same("itself", carriedOut(x, "p01;p11;q01;"), 1);
        Check.same("six more tasks", carriedOut(x, "t0:0-9*1;t0:0-9*1;t0:0-9*1;t0:0-9*1;t0:0-9*1;t0:0-9*1;"), 6);
        Check.same("a ninth task", carriedOut(x, "p67;t0:0-9*1;p76;"), 1);
        Check.same("row", carriedOut(x, "p70;"), 1);
        Check.same("against a row", carriedOut(x, "p06;"), 0);
    }

    private static void oneSavedState() {
        EdgeTasks x = new EdgeTasks();
        Check.same("two tasks and a precedence", carriedOut(x, "t0:0-9*1;t0:0-9*1;p01;"), 3);
        Check.same("one saved state", x.undo(), 0);
        Check.same("no tasks", x.value(1), 0);
        Check.same("nothing carried out", carriedOut(x, "p01;"), 0);
        Check.same("one saved state even so", x.undo(), 0);
        Check.same("empty text", carriedOut(x, ""), 0);
        Check.same("one saved state for it, too", x.undo(), 0);
        Check.same("syntax error", carriedOut(x, "t0:0-9*1;x"), -19);
        Check.badState(x, "no saved state", () -> x.undo());
        Check.same("nothing changed", x.value(1), 0);
    }

    private static void fault(String text, int position) {
        EdgeTasks x = Check.machines(3);
        x.addTask(0, 0, 9, 1);
        Check.write(x, text);
        long before = x.digest();
        Check.same("carryOut of " + text, x.carryOut(), -10 - position);
        Check.same("digest behind " + text, x.digest(), before);
    }

    private static void bytesThatCannotStand() {
        fault("x", 0);
        fault(" ", 0);
        fault(";", 0);
        fault("T0:0-9*1;", 0);
        fault("t3:0-9*1;", 1);
        fault("t:", 1);
        fault("t00:0-9*1;", 2);
        fault("t0;0-9*1;", 2);
        fault("t0:-9*1;", 3);
        fault("t0:x-9*1;", 3);
        fault("t0:0x9*1;", 4);
        fault("t0:0--9*1;", 5);
        fault("t0:0-*1;", 5);
        fault("t0:0-9:1;", 6);
        fault("t0:0-9*;", 7);
        fault("t0:0-9*1,", 8);
        fault("t0:0-9*1;;", 9);
        fault("t0:0-9*1;\n", 9);
        fault("t0:0000-9*1;", 6);
        fault("t0:0-0009*1;", 8);
        fault("t0:0-9*001;", 9);
        fault("p8", 1);
        fault("p/", 1);
        fault("p0:", 2);
        fault("p08;", 2);
        fault("q01p", 3);
        fault("q011;", 3);
        fault("p01;q01;r01;", 8);
        fault("p 01;", 1);
    }

    private static void textsThatEndTooEarly() {
        String whole = "t0:10-20*15;p01;";
        for (int length = 1; length < whole.length(); length++) {
            if (length != 12) {
                fault(whole.substring(0, length), length);
            }
        }
    }

    private static void numbersOutOfRange() {
        fault("t0:201-9*1;", 3);
        fault("t0:999", 3);
        fault("t0:201x", 3);
        fault("t0:201;", 3);
        fault("t0:2010-9*1;", 6);
        fault("t0:20", 5);
        fault("t0:0-0*1;", 5);
        fault("t0:0-000*1;", 5);
        fault("t0:0-401*1;", 5);
        fault("t0:0-401", 5);
        fault("t0:0-0", 5);
        fault("t0:0-4010", 8);
        fault("t0:0-9*0;", 7);
        fault("t0:0-9*00;", 7);
        fault("t0:0-9*51;", 7);
        fault("t0:0-9*51", 7);
        fault("t0:0-9*99:", 7);
        fault("t0:0-9*510;", 9);
        fault("t0:201-401*51;", 3);
        fault("t0:0-9*1;t0:0-9*1;t0:0-9*0;", 25);
    }

    private static void bytesOfAnEarlierText() {
        EdgeTasks x = Check.machines(3);
        Check.write(x, "p01;p01;t0:0-9*1;");
        x.clearText();
        Check.write(x, "p01");
        Check.same("ends too early, with a semicolon from before", x.carryOut(), -13);
        x.clearText();
        Check.write(x, "t0:0-9*1;");
        Check.same("ends before the orders from before", x.carryOut(), 1);
    }

    private static void fullText() {
        EdgeTasks x = new EdgeTasks();
        Check.write(x, "t0:0-9*1;t0:0-9*1;t0:000-009*1;");
        for (int k = 0; k < 17; k++) {
            Check.write(x, k % 2 == 0 ? "p01;" : "q01;");
        }
        Check.same("99 bytes", x.clearText(), 99);
        Check.write(x, "t0:0-9*1;t0:0-9*01;t0:000-009*1;");
        for (int k = 0; k < 17; k++) {
            Check.write(x, k % 2 == 0 ? "p01;" : "q01;");
        }
        Check.badState(x, "full", () -> x.append('p'));
        Check.same("all 100 bytes", x.carryOut(), 20);
        Check.same("the last order", x.value(2), 1);
        x.clearText();
        for (int k = 0; k < 25; k++) {
            Check.write(x, k % 2 == 0 ? "q01;" : "p01;");
        }
        Check.same("25 orders", x.carryOut(), 25);
        x.clearText();
        for (int k = 0; k < 24; k++) {
            Check.write(x, k % 2 == 0 ? "p01;" : "q01;");
        }
        Check.write(x, "p01x");
        Check.same("fault at the last byte", x.carryOut(), -109);
        x.clearText();
        for (int k = 0; k < 24; k++) {
            Check.write(x, "p01;");
        }
        Check.write(x, "t0:0");
        Check.same("too early at 100", x.carryOut(), -110);
    }
}
