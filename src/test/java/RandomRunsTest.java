import java.lang.reflect.Method;
import java.lang.reflect.Modifier;
import java.util.ArrayList;
import java.util.Comparator;
import java.util.List;
import java.util.Random;

/** Runs of 512 calls, by a seed that stays, on the class and on the plain telling of the document. */
public final class RandomRunsTest {
    private static final int RUNS = 300;
    /** So many calls at its end only ask, so that what the calls before have done is looked at from all sides. */
    private static final int QUESTIONS = 182;

    private RandomRunsTest() {
    }

    public static void main(String[] args) throws ReflectiveOperationException {
        List<Method> calls = calls();
        Check.due("calls of the face", calls.size(), 38);
        for (int seed = 0; seed < RUNS; seed++) {
            run(seed, calls);
        }
        Check.end();
    }

    /** The face in an order that is always the same. */
    private static List<Method> calls() {
        List<Method> calls = new ArrayList<>();
        for (Method call : FableIndex.class.getDeclaredMethods()) {
            if (Modifier.isPublic(call.getModifiers())) {
                calls.add(call);
            }
        }
        calls.sort(Comparator.comparing(Method::getName));
        return calls;
    }

    private static void run(int seed, List<Method> calls) throws ReflectiveOperationException {
        Random random = new Random(seed);
        Both both = new Both("run " + seed);
        int oneIn = seed % 4 == 0 ? 4 : 24;
        Object last = null;
        while (both.left() > 0) {
            if (last instanceof Class) {
                // Behind a call that was refused all must be as before.
                last = both.call("digest");
            } else {
                Method call = pick(random, calls, both.left() <= QUESTIONS);
                last = both.call(call.getName(), with(random, call, oneIn));
            }
        }
    }

    /** Calls that change something come more often than the others, until the run only asks. */
    private static Method pick(Random random, List<Method> calls, boolean asking) {
        Method call = calls.get(random.nextInt(calls.size()));
        while (asking && changes(call.getName())) {
            call = calls.get(random.nextInt(calls.size()));
        }
        for (int n = 0; n < 3 && !asking && !changes(call.getName()); n++) {
            call = calls.get(random.nextInt(calls.size()));
        }
        return call;
    }

    private static boolean changes(String name) {
        return name.startsWith("add") || name.startsWith("turn") || name.equals("tell") || name.equals("forget")
                || name.equals("passSeasons");
    }

    /** Arguments that fit for the most part; one in some is put beside the edge. */
    private static Object[] with(Random random, Method call, int oneIn) {
        Object[] with = new Object[call.getParameterCount()];
        for (int n = 0; n < with.length; n++) {
            boolean seasons = call.getName().equals("passSeasons") || call.getName().equals("tellingsAfter")
                    || call.getName().equals("bestPass");
            if (random.nextInt(oneIn) == 0) {
                int[] edges = {-1, 0, 5, 6, 9, 10, 11, 12, 19, 20, 21, 32, 40, 41, Integer.MIN_VALUE,
                    Integer.MAX_VALUE};
                with[n] = edges[random.nextInt(edges.length)];
            } else if (seasons) {
                with[n] = 1 + random.nextInt(random.nextBoolean() ? 3 : 20);
            } else {
                with[n] = random.nextInt(random.nextInt(4) == 0 ? 20 : 6);
            }
        }
        return with;
    }
}
