import java.lang.reflect.InvocationTargetException;
import java.lang.reflect.Method;
import java.lang.reflect.Modifier;
import java.util.ArrayList;
import java.util.Arrays;
import java.util.Comparator;
import java.util.List;
import java.util.Random;

/** Runs of 512 calls, by a seed that stays, on the class and on the plain telling of the document. */
public final class RandomRunsTest {
    private static final int RUNS = 300;
    private static final int CALLS = 512;
    /** From here on a run only asks, so that what the calls before it have done is looked at from all sides. */
    private static final int FIRST_OF_QUESTIONS = 330;

    private RandomRunsTest() {
    }

    public static void main(String[] args) throws ReflectiveOperationException {
        List<Method> calls = calls();
        Check.due("calls of the face", calls.size(), 38);
        for (int seed = 0; seed < RUNS; seed++) {
            run(seed, calls);
        }
        Check.end();
    }

    /** The face in an order that is always the same. */
    private static List<Method> calls() {
        List<Method> calls = new ArrayList<>();
        for (Method call : FableIndex.class.getDeclaredMethods()) {
            if (Modifier.isPublic(call.getModifiers())) {
                calls.add(call);
            }
        }
        calls.sort(Comparator.comparing(Method::getName));
        return calls;
    }

    private static void run(int seed, List<Method> calls) throws ReflectiveOperationException {
        Random random = new Random(seed);
        FableIndex x = new FableIndex();
        PlainIndex plain = new PlainIndex();
        Method digest = FableIndex.class.getDeclaredMethod("digest");
        int oneIn = seed % 4 == 0 ? 4 : 24;
        Object last = null;
        for (int n = 0; n < CALLS; n++) {
            // Behind a call that was refused all must be as before.
            Method call = last instanceof Class ? digest : pick(random, calls, n >= FIRST_OF_QUESTIONS);
            Object[] with = with(random, call, oneIn);
            last = answer(call, x, with);
            Method due = PlainIndex.class.getDeclaredMethod(call.getName(), call.getParameterTypes());
            Object want = answer(due, plain, with);
            String text = "run " + seed + ", call " + n + ": " + call.getName() + Arrays.toString(with);
            Check.due(text + " answers as is due", last.equals(want), true);
            if (!last.equals(want)) {
                Check.fault(text + " answered " + last + ", due is " + want);
                return;
            }
        }
    }

    /** Calls that change something come more often than the others, until the run only asks. */
    private static Method pick(Random random, List<Method> calls, boolean asking) {
        Method call = calls.get(random.nextInt(calls.size()));
        while (asking && changes(call.getName())) {
            call = calls.get(random.nextInt(calls.size()));
        }
        for (int n = 0; n < 3 && !asking && !changes(call.getName()); n++) {
            call = calls.get(random.nextInt(calls.size()));
        }
        return call;
    }

    private static boolean changes(String name) {
        return name.startsWith("add") || name.startsWith("turn") || name.equals("tell") || name.equals("forget")
                || name.equals("passSeasons");
    }

    /** Arguments that fit for the most part; one in some is put beside the edge. */
    private static Object[] with(Random random, Method call, int oneIn) {
        Object[] with = new Object[call.getParameterCount()];
        for (int n = 0; n < with.length; n++) {
            boolean seasons = call.getName().equals("passSeasons") || call.getName().equals("tellingsAfter")
                    || call.getName().equals("bestPass");
            if (random.nextInt(oneIn) == 0) {
                int[] edges = {-1, 0, 5, 6, 9, 10, 11, 12, 19, 20, 21, 32, 40, 41, Integer.MIN_VALUE,
                    Integer.MAX_VALUE};
                with[n] = edges[random.nextInt(edges.length)];
            } else if (seasons) {
                with[n] = 1 + random.nextInt(random.nextBoolean() ? 3 : 20);
            } else {
                with[n] = random.nextInt(random.nextInt(4) == 0 ? 20 : 6);
            }
        }
        return with;
    }

    /** The answer, or the class of the exception. */
    private static Object answer(Method call, Object of, Object[] with) throws IllegalAccessException {
        try {
            return call.invoke(of, with);
        } catch (InvocationTargetException e) {
            return e.getCause().getClass();
        }
    }
}
