import java.util.List;
import java.util.function.Function;
import java.util.function.Supplier;

/** The forms of test that the edges of the document come in; each test bears a name with its promise. */
final class Edge {
    static final Class<?> NO_INDEX = IndexOutOfBoundsException.class;
    static final Class<?> NO_STATE = IllegalStateException.class;
    static final Class<?> NO_ARGUMENT = IllegalArgumentException.class;

    /** Numbers that, as a shift or a place of an array, might pass for ones that are allowed. */
    private static final int[] FAR = {13, 16, 20, 21, 31, 32, 33, 63, 64, 65, 128, 255, 256, 65536, 1 << 30,
        Integer.MAX_VALUE - 1, Integer.MAX_VALUE};

    /** A call with one of its arguments left open. */
    interface With {
        Object on(FableIndex x, int n);
    }

    private Edge() {
    }

    /** The call throws the exception, and nothing that can be seen has changed behind it. */
    static void refused(String name, Class<?> due, Supplier<FableIndex> make, Function<FableIndex, Object> call) {
        Check.test(name, () -> refusal("the call", due, make, call));
    }

    /** One number less than the first that is allowed is refused, and all that are far below it. */
    static void notBelow(String name, Class<?> due, int first, Supplier<FableIndex> make, With call) {
        Check.test(name, () -> {
            for (int n : new int[] {first - 1, first - 2}) {
                refusal("with " + n, due, make, x -> call.on(x, n));
            }
            for (int far : FAR) {
                Check.thrown("with " + -far, () -> call.on(make.get(), -far), due);
            }
            Check.thrown("with MIN_VALUE", () -> call.on(make.get(), Integer.MIN_VALUE), due);
        });
    }

    /** One number more than the last that is allowed is refused, and all that are far above it. */
    static void notAbove(String name, Class<?> due, int last, Supplier<FableIndex> make, With call) {
        Check.test(name, () -> {
            for (int n : new int[] {last + 1, last + 2}) {
                refusal("with " + n, due, make, x -> call.on(x, n));
            }
            for (int far : FAR) {
                if (far > last) {
                    Check.thrown("with " + far, () -> call.on(make.get(), far), due);
                }
            }
        });
    }

    /** The call with this number throws nothing; what it answers, other tests look at. */
    static void goes(String name, Supplier<FableIndex> make, With call, int n) {
        Check.test(name, () -> call.on(make.get(), n));
    }

    /** The call answers, and nothing that can be seen has changed behind it. */
    static void changesNothing(String name, Supplier<FableIndex> make, Function<FableIndex, Object> call) {
        Check.test(name, () -> alike("the call", make, () -> {
            FableIndex x = make.get();
            call.apply(x);
            return x;
        }));
    }

    private static void refusal(String text, Class<?> due, Supplier<FableIndex> make,
            Function<FableIndex, Object> call) {
        Check.thrown(text, () -> call.apply(make.get()), due);
        alike(text, make, () -> behindRefusal(make, call));
    }

    private static FableIndex behindRefusal(Supplier<FableIndex> make, Function<FableIndex, Object> call) {
        FableIndex x = make.get();
        try {
            call.apply(x);
        } catch (RuntimeException e) {
            return x;
        }
        return x;
    }

    private static void alike(String text, Supplier<FableIndex> before, Supplier<FableIndex> behind) {
        List<String> due = Seen.of(before);
        List<String> got = Seen.of(behind);
        for (int n = 0; n < due.size() && n < got.size(); n++) {
            if (!due.get(n).equals(got.get(n))) {
                Check.fault("behind " + text + ": " + got.get(n) + ", before it: " + due.get(n));
                return;
            }
        }
        Check.due("how much can be seen behind " + text, got.size(), due.size());
    }
}
