/** Counts the answers that are not as due, and ends a test's main method. */
final class Check {
    interface Call {
        int run();
    }

    interface Part {
        void run();
    }

    private final String test;
    private int checked;
    private int wrong;

    Check(String test) {
        this.test = test;
    }

    /** A part that a stray exception ends is told under its name, and the parts behind it still run. */
    void part(String name, Part part) {
        checked++;
        try {
            part.run();
        } catch (RuntimeException e) {
            say(name + " ended early by " + e);
        }
    }

    void due(String what, long got, long want) {
        checked++;
        if (got != want) {
            say(what + " answered " + got + ", due is " + want);
        }
    }

    void dueD(String what, double got, double want) {
        checked++;
        if (got != want) {
            say(what + " answered " + got + ", due is " + want);
        }
    }

    void dueText(String what, String got, String want) {
        checked++;
        if (!got.equals(want)) {
            say(what + " answered " + got + ", due is " + want);
        }
    }

    void dueTrue(String what, boolean got) {
        checked++;
        if (!got) {
            say(what + " does not hold");
        }
    }

    /** The very class is due, not one below it. */
    void dueThrow(String what, Class<? extends RuntimeException> kind, Call call) {
        checked++;
        String got;
        try {
            got = Integer.toString(call.run());
        } catch (RuntimeException e) {
            if (e.getClass() == kind) {
                return;
            }
            got = e.toString();
        }
        say(what + " answered " + got + ", due is " + kind.getName());
    }

    void dueIndex(String what, Call call) {
        dueThrow(what, IndexOutOfBoundsException.class, call);
    }

    void dueArgument(String what, Call call) {
        dueThrow(what, IllegalArgumentException.class, call);
    }

    void dueState(String what, Call call) {
        dueThrow(what, IllegalStateException.class, call);
    }

    void dueElement(String what, Call call) {
        dueThrow(what, java.util.NoSuchElementException.class, call);
    }

    void end() {
        System.out.println(test + ": " + checked + " checked, " + wrong + " wrong");
        if (wrong != 0) {
            System.exit(1);
        }
    }

    private void say(String text) {
        wrong++;
        if (wrong <= 50) {
            System.out.println(test + ": " + text);
        }
    }
}
