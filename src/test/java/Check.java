import java.util.function.IntSupplier;

/** What the tests share: answers compared, refusals awaited, and an exit code at the end. */
final class Check {
    static final Class<IndexOutOfBoundsException> INDEX = IndexOutOfBoundsException.class;
    static final Class<IllegalStateException> STATE = IllegalStateException.class;
    static final Class<IllegalArgumentException> ARGUMENT = IllegalArgumentException.class;

    private static int checks = 0;
    private static int wrong = 0;

    private Check() {
    }

    static void same(String call, long got, long want) {
        checks++;
        if (got != want) {
            fail(call + " answered " + got + ", due is " + want);
        }
    }

    static void yes(String call, boolean got) {
        same(call, got ? 1 : 0, 1);
    }

    static void no(String call, boolean got) {
        same(call, got ? 1 : 0, 0);
    }

    static void refused(String call, Class<? extends RuntimeException> due, Runnable run) {
        checks++;
        try {
            run.run();
        } catch (RuntimeException e) {
            // The very class: the machine's own ArrayIndexOutOfBoundsException is no refusal.
            if (e.getClass() != due) {
                fail(call + " threw " + e.getClass().getName() + ", due is " + due.getName());
            }
            return;
        }
        fail(call + " was not refused, due is " + due.getName());
    }

    /** What a call answered, or throws. and the name of what it threw. */
    static String answer(IntSupplier call) {
        try {
            return Integer.toString(call.getAsInt());
        } catch (RuntimeException e) {
            return "throws." + e.getClass().getSimpleName();
        }
    }

    static void fail(String text) {
        wrong++;
        if (wrong <= 20) {
            System.out.println(text);
        }
    }

    static void end(String test) {
        System.out.println(test + ": " + checks + " checks, " + wrong + " wrong");
        if (wrong != 0 || checks == 0) {
            System.exit(1);
        }
    }
}
