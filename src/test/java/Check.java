/** What the tests of the project say of a call: the answer that is due, or the exception. */
final class Check {
    /** A call that may throw. */
    interface Call {
        void make();
    }

    private static String testing = "";
    private static int tests = 0;
    private static int made = 0;
    private static int wrong = 0;

    private Check() {
    }

    /** A test of its own: each fault that it finds is told with its name. */
    static void test(String name, Runnable body) {
        tests++;
        testing = name + ": ";
        try {
            body.run();
        } catch (RuntimeException e) {
            fault("ended early by " + e);
        }
        testing = "";
    }

    static void due(String call, long got, long want) {
        made++;
        if (got != want) {
            fault(call + " answered " + got + ", due is " + want);
        }
    }

    static void due(String call, boolean got, boolean want) {
        made++;
        if (got != want) {
            fault(call + " answered " + got + ", due is " + want);
        }
    }

    static void due(String call, double got, double want) {
        made++;
        if (got != want) {
            fault(call + " answered " + got + ", due is " + want);
        }
    }

    static void noSuch(FableIndex x, String call, Call it) {
        refused(x, call, it, IndexOutOfBoundsException.class);
    }

    static void noState(FableIndex x, String call, Call it) {
        refused(x, call, it, IllegalStateException.class);
    }

    static void noArgument(FableIndex x, String call, Call it) {
        refused(x, call, it, IllegalArgumentException.class);
    }

    /** The call throws just this exception, none below it, and changes nothing. */
    private static void refused(FableIndex x, String call, Call it, Class<?> want) {
        long before = x.digest();
        thrown(call, it, want);
        if (x.digest() != before) {
            fault(call + " changed something");
        }
    }

    /** The call throws just this exception, none below it, and the class itself throws it. */
    static void thrown(String call, Call it, Class<?> want) {
        made++;
        String got = thrownBy(it);
        if (!got.equals(want.getName())) {
            fault(call + " threw " + got + ", due is " + want.getName());
        }
    }

    private static String thrownBy(Call it) {
        try {
            it.make();
            return "nothing";
        } catch (RuntimeException e) {
            StackTraceElement[] at = e.getStackTrace();
            boolean own = at.length > 0 && at[0].getClassName().startsWith("FableIndex");
            return own ? e.getClass().getName() : e + " from outside the class";
        }
    }

    static void fault(String text) {
        wrong++;
        System.out.println(testing + text);
    }

    static void end() {
        String named = tests == 0 ? "" : tests + " tests by name, ";
        System.out.println(named + made + " calls checked, " + wrong + " wrong");
        if (wrong != 0) {
            System.exit(1);
        }
    }
}
