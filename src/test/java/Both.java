import java.lang.reflect.InvocationTargetException;
import java.lang.reflect.Method;
import java.util.Arrays;

/** The class and the plain telling of the document, side by side: each call goes to both, and is due alike. */
final class Both {
    /** So many calls an object is used for. */
    private static final int CALLS = 512;

    /** What is asked of the plain telling alone, to find a call that fits, counts for no call of the object. */
    final PlainIndex plain = new PlainIndex();
    private final FableIndex index = new FableIndex();
    private final String run;
    private int calls = 0;
    private boolean alike = true;

    Both(String run) {
        this.run = run;
    }

    /** How many calls are left; none behind one that was not answered alike, as all that comes then is of no worth. */
    int left() {
        return alike ? CALLS - calls : 0;
    }

    /** Answers what is due, or the class of the exception that is. */
    Object call(String name, Object... with) throws ReflectiveOperationException {
        Class<?>[] types = new Class<?>[with.length];
        Arrays.fill(types, int.class);
        Object due = answer(PlainIndex.class.getDeclaredMethod(name, types), plain, with);
        Object got = answer(FableIndex.class.getDeclaredMethod(name, types), index, with);
        calls++;
        alike = got.equals(due);
        String text = run + ", call " + calls + ": " + name + Arrays.toString(with);
        Check.due(text + " answers as is due", alike, true);
        if (!alike) {
            Check.fault(text + " answered " + got + ", due is " + due);
        }
        return due;
    }

    private static Object answer(Method call, Object of, Object[] with) throws IllegalAccessException {
        try {
            return call.invoke(of, with);
        } catch (InvocationTargetException e) {
            return e.getCause().getClass();
        }
    }
}
