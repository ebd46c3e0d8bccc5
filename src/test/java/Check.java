/** What the tests share: comparing answers, awaiting exceptions, counting what is wrong. */
final class Check {
    interface Call {
        void make();
    }

    interface Setup {
        EdgeTasks make();
    }

    interface On {
        void call(EdgeTasks x);
    }

    private static int wrong = 0;
    private static String sentence = "";

    private Check() {
    }

    /** Names the sentence of the document that is tested from here on; it is told with each report. */
    static void sentence(String words) {
        sentence = words + ": ";
    }

    static void same(String what, long got, long want) {
        if (got != want) {
            report(what + " answered " + got + ", due is " + want);
        }
    }

    static void same(String what, boolean got, boolean want) {
        same(what, got ? 1 : 0, want ? 1 : 0);
    }

    static void same(String what, double got, double want) {
        if (got != want) {
            report(what + " answered " + got + ", due is " + want);
        }
    }

    static void same(String what, String got, String want) {
        if (!got.equals(want)) {
            report(what + " answered " + got + ", due is " + want);
        }
    }

    static void isTrue(String what, boolean holds) {
        if (!holds) {
            report(what);
        }
    }

    /** Exactly this exception is due, not one of its subclasses, and the call may change nothing. */
    static void raises(EdgeTasks x, String what, Class<?> exception, Call call) {
        long before = x.digest();
        String got = "nothing";
        try {
            call.make();
        } catch (RuntimeException e) {
            got = e.getClass().getName();
        }
        same(what + " throws", got, exception.getName());
        same("digest behind " + what, x.digest(), before);
    }

    static void outOfBounds(EdgeTasks x, String what, Call call) {
        raises(x, what, IndexOutOfBoundsException.class, call);
    }

    static void badArgument(EdgeTasks x, String what, Call call) {
        raises(x, what, IllegalArgumentException.class, call);
    }

    static void badState(EdgeTasks x, String what, Call call) {
        raises(x, what, IllegalStateException.class, call);
    }

    /**
     * Exactly this exception is due, and nothing at all may have changed: what stands, the saved states and the
     * bytes of the text are compared with those of a twin on which the call was not made.
     */
    static void refused(Setup setup, String what, Class<?> exception, On call) {
        EdgeTasks x = setup.make();
        String got = "nothing";
        try {
            call.call(x);
        } catch (RuntimeException e) {
            got = e.getClass().getName();
        }
        same(what + " throws", got, exception.getName());
        same("all that stands behind " + what, traceOf(x), traceOf(setup.make()));
    }

    /** The call throws nothing. */
    static void taken(Setup setup, String what, On call) {
        EdgeTasks x = setup.make();
        String got = "nothing";
        try {
            call.call(x);
        } catch (RuntimeException e) {
            got = e.getClass().getName();
        }
        same(what + " throws", got, "nothing");
    }

    /** All that can be seen of an object, which is spent by it: each saved state, and what the text does. */
    static String traceOf(EdgeTasks x) {
        StringBuilder trace = new StringBuilder();
        for (int k = 0; k < 6; k++) {
            trace.append(x.digest()).append(' ').append(x.makespan()).append(' ');
            try {
                trace.append(x.undo()).append(' ');
            } catch (IllegalStateException e) {
                break;
            }
        }
        return trace.append(x.carryOut()).append(' ').append(x.digest()).toString();
    }

    /** A new object with these machines, no saved state but that of begin. */
    static EdgeTasks machines(int machines) {
        EdgeTasks x = new EdgeTasks();
        x.begin(machines);
        return x;
    }

    static void write(EdgeTasks x, String text) {
        for (int k = 0; k < text.length(); k++) {
            x.append(text.charAt(k));
        }
    }

    /** Undoes all that can be undone and tells how many states were saved. */
    static int undoAll(EdgeTasks x) {
        int count = 0;
        for (int k = 0; k < 10; k++) {
            try {
                x.undo();
                count++;
            } catch (IllegalStateException e) {
                return count;
            }
        }
        return count;
    }

    static long hash(long... values) {
        long h = 3769;
        for (long v : values) {
            h = 31 * h + v;
        }
        return h;
    }

    static void report(String text) {
        wrong++;
        if (wrong <= 40) {
            System.out.println(sentence + text);
        }
    }

    static void end() {
        System.out.println(wrong == 0 ? "as due" : wrong + " wrong");
        if (wrong != 0) {
            System.exit(1);
        }
    }
}
