/** Counts the checks of one test class and ends its run with the exit code that .ci/run looks at. */
final class Checks {
    interface Call {
        void run();
    }

    private int made = 0;
    private int wrong = 0;

    void same(String what, long got, long due) {
        made++;
        if (got != due) {
            fail(what + " answered " + got + ", due is " + due);
        }
    }

    void holds(String what, boolean got) {
        made++;
        if (!got) {
            fail(what + " does not hold");
        }
    }

    void outOfBounds(String what, Call call) {
        throwsOnly(what, IndexOutOfBoundsException.class, call);
    }

    void badArgument(String what, Call call) {
        throwsOnly(what, IllegalArgumentException.class, call);
    }

    void badState(String what, Call call) {
        throwsOnly(what, IllegalStateException.class, call);
    }

    void taken(String what, Call call) {
        made++;
        try {
            call.run();
        } catch (RuntimeException e) {
            fail(what + " threw " + e + ", due is an answer");
        }
    }

    void fail(String text) {
        wrong++;
        System.out.println(text);
    }

    void close() {
        System.out.println(made + " checks, " + wrong + " wrong");
        if (wrong != 0 || made == 0) {
            System.exit(1);
        }
    }

    /** Only a throw statement of the program makes an exception whose trace begins in its code. */
    static boolean isThrownByProgram(RuntimeException e) {
        StackTraceElement[] trace = e.getStackTrace();
        return trace.length > 0 && trace[0].getClassName().equals("Resetline");
    }

    // The very class is asked for: a subclass would be one that the machine throws by itself.
    void throwsOnly(String what, Class<? extends RuntimeException> due, Call call) {
        made++;
        try {
            call.run();
        } catch (RuntimeException e) {
            if (e.getClass() != due || !isThrownByProgram(e)) {
                fail(what + " threw " + e + ", due is " + due.getName());
            }
            return;
        }
        fail(what + " threw nothing, due is " + due.getName());
    }
}
