import java.util.ArrayList;
import java.util.Collections;
import java.util.List;
import java.util.Random;

/**
 * Runs of 512 calls that fit the state for the most part: many fables in families, open passes, bans and tellings, so
 * that seasons have much to do; by a seed that stays, on the class and on the plain telling of the document.
 */
public final class RichRunsTest {
    private static final int RUNS = 250;
    /** So many calls at the end of a run only ask. */
    private static final int QUESTIONS = 150;
    private static final String[] OF_NOTHING = {"fables", "season", "tellings", "silenced", "favouriteMoral",
        "favouriteBeast", "meanBeasts", "digest"};
    private static final String[] OF_A_FABLE = {"moralOf", "beastsOf", "homeOf", "parentOf", "variantsOf",
        "valleysOf"};
    private static final String[] OF_TWO_FABLES = {"nearestAncestor", "kinship", "sharedBeasts"};
    private static final String[] OF_A_FABLE_AND_A_VALLEY = {"isBanned", "isTold", "seasonsUntil"};
    private static final String[] OF_A_VALLEY = {"toldIn", "allowedIn", "bansOf"};

    private static int mostSteps = 0;
    private static int mostVariants = 0;
    private static int longestWay = 0;
    private static int mostSilenced = 0;
    private static int fullIndices = 0;
    private static int bestPasses = 0;

    private final Random random;
    private final Both both;
    private final PlainIndex plain;
    private final int mostFables;

    private RichRunsTest(int seed) {
        random = new Random(seed);
        mostFables = 2 + random.nextInt(20);
        both = new Both("rich run " + seed);
        plain = both.plain;
    }

    public static void main(String[] args) throws ReflectiveOperationException {
        for (int seed = 0; seed < RUNS; seed++) {
            new RichRunsTest(seed).run();
        }
        richEnough();
        Check.end();
    }

    /** Runs in which little comes to pass would find few faults, and say nothing of it. */
    private static void richEnough() {
        Check.due("a kinship of ten steps or more came", mostSteps >= 10, true);
        Check.due("a fable with six variants or more came", mostVariants >= 6, true);
        Check.due("a way of six seasons or more came", longestWay >= 6, true);
        Check.due("forty silenced fables or more came in one run", mostSilenced >= 40, true);
        Check.due("a full index came in thirty runs or more", fullIndices >= 30, true);
        Check.due("a thousand best passes or more came", bestPasses >= 1000, true);
    }

    private void run() throws ReflectiveOperationException {
        writeDown();
        arrange();
        while (both.left() > QUESTIONS) {
            change();
            look();
        }
        while (both.left() > 0) {
            ask();
        }
        remember();
    }

    private void remember() {
        mostSilenced = Math.max(mostSilenced, plain.silenced());
        fullIndices += plain.fables() == 20 ? 1 : 0;
        for (int fable = 0; fable < plain.fables(); fable++) {
            mostVariants = Math.max(mostVariants, plain.variantsOf(fable));
            for (int other = 0; other < plain.fables(); other++) {
                mostSteps = Math.max(mostSteps, plain.kinship(fable, other));
            }
        }
    }

    // ---- what a run begins with

    /** Families as broad or as long as the seed makes them. */
    private void writeDown() throws ReflectiveOperationException {
        int oneInIsNew = 2 + random.nextInt(9);
        int oneInIsOfAny = 1 + random.nextInt(5);
        while (plain.fables() < mostFables - 1 && both.left() > 0) {
            if (plain.fables() == 0 || random.nextInt(oneInIsNew) == 0) {
                newFable();
            } else {
                boolean any = random.nextInt(oneInIsOfAny) == 0;
                newVariant(any ? aFable() : plain.fables() - 1);
            }
        }
    }

    private void newFable() throws ReflectiveOperationException {
        both.call("addFable", aMoral(), aBeast(), aValley());
        for (int more = random.nextInt(4); more > 0; more--) {
            newBeast(plain.fables() - 1);
        }
    }

    private void newBeast(int fable) throws ReflectiveOperationException {
        both.call("addBeast", fable, aBeastThat(fable, false));
    }

    private void newVariant(int fable) throws ReflectiveOperationException {
        both.call("addVariant", fable, aBeastThat(fable, true), aBeastThat(fable, false), aValley());
    }

    private void arrange() throws ReflectiveOperationException {
        if (random.nextBoolean()) {
            openARow();
        } else {
            int passes = 2 + random.nextInt(9);
            for (int n = 0; n < passes; n++) {
                turnAPass();
            }
        }
        int beasts = random.nextInt(40);
        for (int n = 0; n < beasts; n++) {
            both.call("turnBeast", aValley(), aBeast());
        }
        int morals = random.nextInt(6);
        for (int n = 0; n < morals; n++) {
            both.call("turnMoral", aValley(), plain.moralOf(aFable()));
        }
        int tellings = 1 + random.nextInt(12);
        for (int n = 0; n < tellings; n++) {
            tellOne();
        }
    }

    /** Long ways come where the valleys lie in a row. */
    private void openARow() throws ReflectiveOperationException {
        List<Integer> row = new ArrayList<>(List.of(0, 1, 2, 3, 4, 5));
        Collections.shuffle(row, random);
        for (int n = 0; n < 5; n++) {
            both.call("turnPass", row.get(n), row.get(n + 1));
        }
    }

    // ---- what a run does

    private void change() throws ReflectiveOperationException {
        switch (random.nextInt(10)) {
            case 0 -> turnAPass();
            case 1 -> both.call("turnBeast", aValley(), aBeast());
            case 2 -> both.call("turnMoral", aValley(), plain.moralOf(aFable()));
            case 3, 4 -> tellOne();
            case 5 -> forgetOne();
            case 6 -> newVariantIfFew();
            case 7 -> newBeast(aFable());
            default -> both.call("passSeasons", random.nextInt(8) == 0 ? 1 + random.nextInt(40) : 1);
        }
    }

    /** But a run of few fables keeps to few. */
    private void newVariantIfFew() throws ReflectiveOperationException {
        if (plain.fables() < mostFables || random.nextInt(6) == 0) {
            newVariant(aFable());
        }
    }

    /** A call that shows much at once of what a change has done. */
    private void look() throws ReflectiveOperationException {
        switch (random.nextInt(4)) {
            case 0 -> both.call("tellingsAfter", 1 + random.nextInt(random.nextBoolean() ? 3 : 40));
            case 1 -> lookForAPass();
            case 2 -> lookForAWay();
            default -> both.call("digest");
        }
    }

    private void lookForAPass() throws ReflectiveOperationException {
        Object best = both.call("bestPass", 1 + random.nextInt(random.nextBoolean() ? 3 : 20));
        bestPasses += best.equals(-1) ? 0 : 1;
    }

    private void lookForAWay() throws ReflectiveOperationException {
        int fable = aFable();
        int valley = aValley();
        for (int n = 0; n < 5 && plain.seasonsUntil(fable, valley) < 2; n++) {
            fable = aFable();
            valley = aValley();
        }
        Object seasons = both.call("seasonsUntil", fable, valley);
        longestWay = Math.max(longestWay, (int) seasons);
    }

    private void turnAPass() throws ReflectiveOperationException {
        int a = aValley();
        both.call("turnPass", a, (a + 1 + random.nextInt(5)) % 6);
    }

    /** Tells one where it can be told, if a few looks find it; else the call is refused. */
    private void tellOne() throws ReflectiveOperationException {
        int fable = aFable();
        int valley = aValley();
        for (int n = 0; n < 8 && (plain.isTold(fable, valley) || plain.isBanned(fable, valley)); n++) {
            fable = aFable();
            valley = aValley();
        }
        both.call("tell", fable, valley);
    }

    private void forgetOne() throws ReflectiveOperationException {
        int fable = aFable();
        int valley = aValley();
        for (int n = 0; n < 8 && !plain.isTold(fable, valley); n++) {
            fable = aFable();
            valley = aValley();
        }
        both.call("forget", fable, valley);
    }

    private void ask() throws ReflectiveOperationException {
        switch (random.nextInt(9)) {
            case 0 -> both.call(one(OF_NOTHING));
            case 1 -> both.call(one(OF_A_FABLE), aFable());
            case 2 -> both.call(one(OF_TWO_FABLES), aFable(), aFable());
            case 3 -> both.call(one(OF_A_FABLE_AND_A_VALLEY), aFable(), aValley());
            case 4 -> both.call(one(OF_A_VALLEY), aValley());
            case 5 -> both.call("isOpen", aValley(), aValley());
            case 6 -> both.call("hasBeast", aFable(), aBeast());
            case 7 -> both.call("fablesWithMoral", plain.moralOf(aFable()));
            default -> both.call("fablesWithBeast", aBeast());
        }
    }

    // ---- what fits

    private String one(String[] of) {
        return of[random.nextInt(of.length)];
    }

    private int aFable() {
        return random.nextInt(plain.fables());
    }

    private int aMoral() {
        return random.nextInt(10);
    }

    private int aBeast() {
        return random.nextInt(12);
    }

    private int aValley() {
        return random.nextInt(6);
    }

    /** A beast that the fable has, or has not; if a few looks find none, any. */
    private int aBeastThat(int fable, boolean has) {
        int beast = aBeast();
        for (int n = 0; n < 100 && plain.hasBeast(fable, beast) != has; n++) {
            beast = aBeast();
        }
        return beast;
    }
}
