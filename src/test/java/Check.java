/** What the tests of the project say of a call: the answer that is due, or the exception. */
final class Check {
    /** A call that may throw. */
    interface Call {
        void make();
    }

    private static int made = 0;
    private static int wrong = 0;

    private Check() {
    }

    static void due(String call, long got, long want) {
        made++;
        if (got != want) {
            fault(call + " answered " + got + ", due is " + want);
        }
    }

    static void due(String call, boolean got, boolean want) {
        made++;
        if (got != want) {
            fault(call + " answered " + got + ", due is " + want);
        }
    }

    static void due(String call, double got, double want) {
        made++;
        if (got != want) {
            fault(call + " answered " + got + ", due is " + want);
        }
    }

    static void noSuch(FableIndex x, String call, Call it) {
        refused(x, call, it, IndexOutOfBoundsException.class);
    }

    static void noState(FableIndex x, String call, Call it) {
        refused(x, call, it, IllegalStateException.class);
    }

    static void noArgument(FableIndex x, String call, Call it) {
        refused(x, call, it, IllegalArgumentException.class);
    }

    /** The call throws just this exception, none below it, and changes nothing. */
    private static void refused(FableIndex x, String call, Call it, Class<?> want) {
        made++;
        long before = x.digest();
        String got = thrownBy(it);
        if (!got.equals(want.getName())) {
            fault(call + " threw " + got + ", due is " + want.getName());
        }
        if (x.digest() != before) {
            fault(call + " changed something");
        }
    }

    private static String thrownBy(Call it) {
        try {
            it.make();
            return "nothing";
        } catch (RuntimeException e) {
            return e.getClass().getName();
        }
    }

    static void fault(String text) {
        wrong++;
        System.out.println(text);
    }

    static void end() {
        System.out.println(made + " calls checked, " + wrong + " wrong");
        if (wrong != 0) {
            System.exit(1);
        }
    }
}
