import java.lang.reflect.InvocationTargetException;
import java.lang.reflect.Method;
import java.lang.reflect.Modifier;
import java.util.ArrayList;
import java.util.Arrays;
import java.util.Comparator;
import java.util.List;
import java.util.Random;

/** Runs of 512 calls, by a seed that stays, on the class and on the plain telling of the document. */
public final class RandomRunsTest {
    private static final int RUNS = 80;
    private static final int CALLS = 512;

    private RandomRunsTest() {
    }

    public static void main(String[] args) throws ReflectiveOperationException {
        List<Method> calls = calls();
        Check.due("calls of the face beside digest()", calls.size(), 37);
        for (int seed = 0; seed < RUNS; seed++) {
            run(seed, calls);
        }
        Check.end();
    }

    /** The face in an order that is always the same; digest() is looked at by itself. */
    private static List<Method> calls() {
        List<Method> calls = new ArrayList<>();
        for (Method call : FableIndex.class.getDeclaredMethods()) {
            boolean open = Modifier.isPublic(call.getModifiers());
            if (open && !call.getName().equals("digest")) {
                calls.add(call);
            }
        }
        calls.sort(Comparator.comparing(Method::getName));
        return calls;
    }

    private static void run(int seed, List<Method> calls) throws ReflectiveOperationException {
        Random random = new Random(seed);
        FableIndex x = new FableIndex();
        PlainIndex plain = new PlainIndex();
        boolean rough = seed % 4 == 0;
        for (int n = 0; n < CALLS; n++) {
            Method call = pick(random, calls);
            Object[] with = with(random, call, rough ? 4 : 24);
            long before = x.digest();
            Object got = answer(call, x, with);
            Method due = PlainIndex.class.getDeclaredMethod(call.getName(), call.getParameterTypes());
            Object want = answer(due, plain, with);
            String text = "run " + seed + ", call " + n + ": " + call.getName() + Arrays.toString(with);
            if (!got.equals(want)) {
                Check.fault(text + " answered " + got + ", due is " + want);
                return;
            }
            if (got instanceof Class) {
                Check.due(text + " digest() behind an exception", x.digest(), before);
            }
            if (n % 64 == 0) {
                Check.due(text + " digest()", x.digest(), DigestByHand.of(x));
                same(text, x, plain);
            }
        }
        same("run " + seed, x, plain);
    }

    /** Calls that change something come more often than the others. */
    private static Method pick(Random random, List<Method> calls) {
        Method call = calls.get(random.nextInt(calls.size()));
        for (int n = 0; n < 3 && !changes(call.getName()); n++) {
            call = calls.get(random.nextInt(calls.size()));
        }
        return call;
    }

    private static boolean changes(String name) {
        return name.startsWith("add") || name.startsWith("turn") || name.equals("tell") || name.equals("forget")
                || name.equals("passSeasons");
    }

    /** Arguments that fit for the most part; one in some is put beside the edge. */
    private static Object[] with(Random random, Method call, int oneIn) {
        Object[] with = new Object[call.getParameterCount()];
        for (int n = 0; n < with.length; n++) {
            boolean seasons = call.getName().equals("passSeasons") || call.getName().equals("tellingsAfter")
                    || call.getName().equals("bestPass");
            if (random.nextInt(oneIn) == 0) {
                int[] edges = {-1, 5, 6, 9, 10, 11, 12, 19, 20, 21, 40, 41, Integer.MIN_VALUE, Integer.MAX_VALUE};
                with[n] = edges[random.nextInt(edges.length)];
            } else if (seasons) {
                with[n] = 1 + random.nextInt(random.nextBoolean() ? 3 : 20);
            } else {
                with[n] = random.nextInt(random.nextInt(4) == 0 ? 20 : 6);
            }
        }
        return with;
    }

    /** The answer, or the class of the exception. */
    private static Object answer(Method call, Object of, Object[] with) throws IllegalAccessException {
        try {
            return call.invoke(of, with);
        } catch (InvocationTargetException e) {
            return e.getCause().getClass();
        }
    }

    private static void same(String text, FableIndex x, PlainIndex plain) {
        Check.due(text + " fables()", x.fables(), plain.fables());
        Check.due(text + " season()", x.season(), plain.season());
        Check.due(text + " silenced()", x.silenced(), plain.silenced());
        Check.due(text + " favouriteMoral()", x.favouriteMoral(), plain.favouriteMoral());
        Check.due(text + " favouriteBeast()", x.favouriteBeast(), plain.favouriteBeast());
        for (int f = 0; f < plain.fables(); f++) {
            for (int v = 0; v < 6; v++) {
                Check.due(text + " isTold(" + f + ", " + v + ")", x.isTold(f, v), plain.isTold(f, v));
                Check.due(text + " isBanned(" + f + ", " + v + ")", x.isBanned(f, v), plain.isBanned(f, v));
                Check.due(text + " seasonsUntil(" + f + ", " + v + ")", x.seasonsUntil(f, v), plain.seasonsUntil(f, v));
            }
            for (int beast = 0; beast < 12; beast++) {
                Check.due(text + " hasBeast(" + f + ", " + beast + ")", x.hasBeast(f, beast), plain.hasBeast(f, beast));
            }
            for (int g = 0; g < plain.fables(); g++) {
                Check.due(text + " kinship(" + f + ", " + g + ")", x.kinship(f, g), plain.kinship(f, g));
            }
        }
    }
}
