/** Counts the calls whose answer is not the one that is due. */
final class Check {
    interface Call {
        long answer();
    }

    static final Class<?> ARGUMENT = IllegalArgumentException.class;
    static final Class<?> INDEX = IndexOutOfBoundsException.class;
    static final Class<?> STATE = IllegalStateException.class;

    private static final int MOST_TOLD = 100;

    private static int checks = 0;
    private static int wrong = 0;
    private static String place = "";

    private Check() {
    }

    /** What is checked from here on is told with this name ahead. */
    static void in(String name) {
        place = name.isEmpty() ? "" : name + ": ";
    }

    static int count() {
        return checks;
    }

    static void answers(String what, long due, Call call) {
        same(what, due, outcome(call));
    }

    static void refuses(String what, Class<?> due, Call call) {
        same(what, due, outcome(call));
    }

    static void holds(String what, boolean isTrue) {
        same(what, true, isTrue);
    }

    static void same(String what, Object due, Object got) {
        checks++;
        if (!due.equals(got)) {
            wrong++;
            if (wrong <= MOST_TOLD) {
                System.out.println(place + what + ": " + got + ", due is " + due);
            }
        }
    }

    /** The answer, or the exception's class; one that code here did not throw counts as none of the classes. */
    static Object outcome(Call call) {
        try {
            return call.answer();
        } catch (RuntimeException e) {
            return isThrownHere(e) ? e.getClass() : "thrown by the machine or the library: " + e;
        }
    }

    private static boolean isThrownHere(RuntimeException e) {
        StackTraceElement[] trace = e.getStackTrace();
        if (trace.length == 0) {
            return false;
        }
        String thrower = trace[0].getClassName();
        return thrower.startsWith("Fixityhall") || thrower.equals("Model");
    }

    static void end() {
        System.out.println(checks + " checks, " + wrong + " wrong");
        if (wrong != 0 || checks == 0) {
            System.exit(1);
        }
    }
}
