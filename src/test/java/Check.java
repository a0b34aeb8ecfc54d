/** Counts the calls whose answer is not the one that is due. */
final class Check {
    interface Call {
        long answer();
    }

    static final Class<?> ARGUMENT = IllegalArgumentException.class;
    static final Class<?> INDEX = IndexOutOfBoundsException.class;
    static final Class<?> STATE = IllegalStateException.class;

    private static int checks = 0;
    private static int wrong = 0;

    private Check() {
    }

    static void answers(String what, long due, Call call) {
        same(what, due, outcome(call));
    }

    static void refuses(String what, Class<?> due, Call call) {
        same(what, due, outcome(call));
    }

    static void holds(String what, boolean isTrue) {
        same(what, true, isTrue);
    }

    static void same(String what, Object due, Object got) {
        checks++;
        if (!due.equals(got)) {
            wrong++;
            System.out.println(what + ": " + got + ", due is " + due);
        }
    }

    /** The answer, or the exception's class; one that the library threw counts as none of the classes. */
    static Object outcome(Call call) {
        try {
            return call.answer();
        } catch (RuntimeException e) {
            StackTraceElement[] trace = e.getStackTrace();
            if (trace.length > 0 && trace[0].getClassName().startsWith("java.")) {
                return "thrown by the library: " + e;
            }
            return e.getClass();
        }
    }

    static void end() {
        System.out.println(checks + " checks, " + wrong + " wrong");
        if (wrong != 0 || checks == 0) {
            System.exit(1);
        }
    }
}
