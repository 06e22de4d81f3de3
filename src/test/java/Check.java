import java.util.Objects;

/** Counts the answers that are not due and prints the first of them. */
final class Check {
    private static final int MOST_PRINTED = 50;

    private int checks = 0;
    private int failures = 0;

    void same(String what, Object want, Object got) {
        checks++;
        if (!Objects.equals(want, got)) {
            fail(what + " answered " + got + ", due is " + want);
        }
    }

    void raises(String what, Class<? extends RuntimeException> kind, Runnable call) {
        checks++;
        try {
            call.run();
            fail(what + " threw nothing, due is " + kind.getSimpleName());
        } catch (RuntimeException e) {
            // The exact class, and from the class's own throw: what the machine or a list throws is a subclass
            // or comes from elsewhere.
            if (e.getClass() != kind) {
                fail(what + " threw " + e + ", due is " + kind.getSimpleName());
            } else if (!isThrownByStartChain(e)) {
                fail(what + " threw what StartChain did not throw itself: " + e);
            }
        }
    }

    static boolean isThrownByStartChain(Throwable e) {
        StackTraceElement[] trace = e.getStackTrace();
        return trace.length > 0 && trace[0].getClassName().startsWith("StartChain");
    }

    void fail(String text) {
        failures++;
        // One fault can spoil every later answer of a long run.
        if (failures <= MOST_PRINTED) {
            System.out.println(text);
        }
    }

    void finish() {
        System.out.println(checks + " checks, " + failures + " failures");
        if (failures > 0) {
            System.exit(1);
        }
    }
}
