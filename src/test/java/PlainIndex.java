import java.math.BigInteger;
import java.util.ArrayDeque;
import java.util.ArrayList;
import java.util.Arrays;
import java.util.Deque;
import java.util.List;
import java.util.Set;
import java.util.TreeSet;

/** The document told once more, word by word and without any haste: what RandomRunsTest holds the class against. */
final class PlainIndex {
    private static final class Fable {
        int moral;
        Set<Integer> beasts = new TreeSet<>();
        int home;
        int parent = -1;
    }

    private final List<Fable> fables = new ArrayList<>();
    private final boolean[][] open = new boolean[6][6];
    private final boolean[][] bannedMoral = new boolean[6][10];
    private final boolean[][] bannedBeast = new boolean[6][12];
    private boolean[][] told = new boolean[6][20];
    private int season;
    private int silenced;

    private static void index(boolean there) {
        if (!there) {
            throw new IndexOutOfBoundsException();
        }
    }

    private static void state(boolean fit) {
        if (!fit) {
            throw new IllegalStateException();
        }
    }

    private static void argument(boolean fit) {
        if (!fit) {
            throw new IllegalArgumentException();
        }
    }

    private boolean isFable(int fable) {
        return 0 <= fable && fable < fables.size();
    }

    private static boolean isMoral(int moral) {
        return 0 <= moral && moral <= 9;
    }

    private static boolean isBeast(int beast) {
        return 0 <= beast && beast <= 11;
    }

    private static boolean isValley(int valley) {
        return 0 <= valley && valley <= 5;
    }

    int addFable(int moral, int beast, int home) {
        index(isMoral(moral) && isBeast(beast) && isValley(home));
        state(fables.size() < 20);
        Fable it = new Fable();
        it.moral = moral;
        it.beasts.add(beast);
        it.home = home;
        fables.add(it);
        return fables.size() - 1;
    }

    int addBeast(int fable, int beast) {
        index(isFable(fable) && isBeast(beast));
        state(!hasBeast(fable, beast) && variantsOf(fable) == 0);
        fables.get(fable).beasts.add(beast);
        return beastsOf(fable);
    }

    int addVariant(int fable, int gone, int comes, int home) {
        index(isFable(fable) && isBeast(gone) && isBeast(comes) && isValley(home));
        state(fables.size() < 20 && hasBeast(fable, gone) && !hasBeast(fable, comes));
        Fable it = new Fable();
        it.moral = moralOf(fable);
        it.beasts.addAll(fables.get(fable).beasts);
        it.beasts.remove(gone);
        it.beasts.add(comes);
        it.home = home;
        it.parent = fable;
        fables.add(it);
        return fables.size() - 1;
    }

    boolean turnPass(int a, int b) {
        index(isValley(a) && isValley(b));
        argument(a != b);
        open[a][b] = !open[a][b];
        open[b][a] = !open[b][a];
        return open[a][b];
    }

    boolean turnMoral(int valley, int moral) {
        index(isValley(valley) && isMoral(moral));
        bannedMoral[valley][moral] = !bannedMoral[valley][moral];
        return bannedMoral[valley][moral];
    }

    boolean turnBeast(int valley, int beast) {
        index(isValley(valley) && isBeast(beast));
        bannedBeast[valley][beast] = !bannedBeast[valley][beast];
        return bannedBeast[valley][beast];
    }

    int tell(int fable, int valley) {
        index(isFable(fable) && isValley(valley));
        state(!told[valley][fable] && !isBanned(fable, valley));
        told[valley][fable] = true;
        return valleysOf(fable);
    }

    int forget(int fable, int valley) {
        index(isFable(fable) && isValley(valley));
        state(told[valley][fable]);
        told[valley][fable] = false;
        return valleysOf(fable);
    }

    int passSeasons(int seasons) {
        argument(1 <= seasons && seasons <= 40);
        for (int n = 0; n < seasons; n++) {
            passOne();
        }
        return tellings();
    }

    private void passOne() {
        for (int valley = 0; valley < 6; valley++) {
            for (int fable = 0; fable < fables.size(); fable++) {
                if (told[valley][fable] && isBanned(fable, valley)) {
                    told[valley][fable] = false;
                    silenced++;
                }
            }
        }
        boolean[][] then = copy(told);
        for (int valley = 0; valley < 6; valley++) {
            for (int fable = 0; fable < fables.size(); fable++) {
                for (int other = 0; other < 6; other++) {
                    if (told[valley][fable] && open[valley][other]) {
                        arrive(then, fable, other);
                    }
                }
            }
        }
        told = then;
        season++;
    }

    private void arrive(boolean[][] then, int fable, int valley) {
        if (!isBanned(fable, valley)) {
            then[valley][fable] = true;
        } else if (!bannedMoral[valley][moralOf(fable)]) {
            for (int variant = 0; variant < fables.size(); variant++) {
                if (parentOf(variant) == fable && !isBanned(variant, valley)) {
                    then[valley][variant] = true;
                    return;
                }
            }
        }
    }

    private static boolean[][] copy(boolean[][] rows) {
        boolean[][] copy = new boolean[rows.length][];
        for (int row = 0; row < rows.length; row++) {
            copy[row] = Arrays.copyOf(rows[row], rows[row].length);
        }
        return copy;
    }

    int moralOf(int fable) {
        index(isFable(fable));
        return fables.get(fable).moral;
    }

    int beastsOf(int fable) {
        index(isFable(fable));
        return fables.get(fable).beasts.size();
    }

    boolean hasBeast(int fable, int beast) {
        index(isFable(fable) && isBeast(beast));
        return fables.get(fable).beasts.contains(beast);
    }

    int homeOf(int fable) {
        index(isFable(fable));
        return fables.get(fable).home;
    }

    int parentOf(int fable) {
        index(isFable(fable));
        return fables.get(fable).parent;
    }

    int variantsOf(int fable) {
        index(isFable(fable));
        int variants = 0;
        for (Fable other : fables) {
            variants += other.parent == fable ? 1 : 0;
        }
        return variants;
    }

    int valleysOf(int fable) {
        index(isFable(fable));
        int valleys = 0;
        for (int valley = 0; valley < 6; valley++) {
            valleys += told[valley][fable] ? 1 : 0;
        }
        return valleys;
    }

    private Set<Integer> ancestors(int fable) {
        Set<Integer> line = new TreeSet<>();
        for (int it = fable; it != -1; it = fables.get(it).parent) {
            line.add(it);
        }
        return line;
    }

    int nearestAncestor(int a, int b) {
        index(isFable(a) && isFable(b));
        int nearest = -1;
        for (int it : ancestors(a)) {
            if (ancestors(b).contains(it)) {
                nearest = Math.max(nearest, it);
            }
        }
        return nearest;
    }

    /** A search over the steps, ring by ring, as promise 19 tells it. */
    int kinship(int a, int b) {
        index(isFable(a) && isFable(b));
        int[] steps = new int[20];
        Arrays.fill(steps, -1);
        steps[a] = 0;
        Deque<Integer> next = new ArrayDeque<>(List.of(a));
        while (!next.isEmpty()) {
            int it = next.remove();
            for (int other = 0; other < fables.size(); other++) {
                boolean step = parentOf(other) == it || parentOf(it) == other;
                if (step && steps[other] == -1) {
                    steps[other] = steps[it] + 1;
                    next.add(other);
                }
            }
        }
        return steps[b];
    }

    int sharedBeasts(int a, int b) {
        index(isFable(a) && isFable(b));
        Set<Integer> both = new TreeSet<>(fables.get(a).beasts);
        both.retainAll(fables.get(b).beasts);
        return both.size();
    }

    boolean isOpen(int a, int b) {
        index(isValley(a) && isValley(b));
        return open[a][b];
    }

    boolean isBanned(int fable, int valley) {
        index(isFable(fable) && isValley(valley));
        for (int beast : fables.get(fable).beasts) {
            if (bannedBeast[valley][beast]) {
                return true;
            }
        }
        return bannedMoral[valley][moralOf(fable)];
    }

    boolean isTold(int fable, int valley) {
        index(isFable(fable) && isValley(valley));
        return told[valley][fable];
    }

    int toldIn(int valley) {
        index(isValley(valley));
        return trues(told[valley]);
    }

    int allowedIn(int valley) {
        index(isValley(valley));
        int allowed = 0;
        for (int fable = 0; fable < fables.size(); fable++) {
            allowed += isBanned(fable, valley) ? 0 : 1;
        }
        return allowed;
    }

    int bansOf(int valley) {
        index(isValley(valley));
        return trues(bannedMoral[valley]) + trues(bannedBeast[valley]);
    }

    private static int trues(boolean[] row) {
        int trues = 0;
        for (boolean it : row) {
            trues += it ? 1 : 0;
        }
        return trues;
    }

    int fables() {
        return fables.size();
    }

    int season() {
        return season;
    }

    int tellings() {
        int tellings = 0;
        for (int fable = 0; fable < fables.size(); fable++) {
            tellings += valleysOf(fable);
        }
        return tellings;
    }

    int silenced() {
        return silenced;
    }

    int fablesWithMoral(int moral) {
        index(isMoral(moral));
        int found = 0;
        for (Fable it : fables) {
            found += it.moral == moral ? 1 : 0;
        }
        return found;
    }

    int fablesWithBeast(int beast) {
        index(isBeast(beast));
        int found = 0;
        for (Fable it : fables) {
            found += it.beasts.contains(beast) ? 1 : 0;
        }
        return found;
    }

    int favouriteMoral() {
        int[] tellings = new int[10];
        for (int fable = 0; fable < fables.size(); fable++) {
            tellings[moralOf(fable)] += valleysOf(fable);
        }
        return firstOfTheMost(tellings);
    }

    int favouriteBeast() {
        int[] tellings = new int[12];
        for (int fable = 0; fable < fables.size(); fable++) {
            for (int beast : fables.get(fable).beasts) {
                tellings[beast] += valleysOf(fable);
            }
        }
        return firstOfTheMost(tellings);
    }

    private int firstOfTheMost(int[] numbers) {
        int first = 0;
        for (int n = 1; n < numbers.length; n++) {
            first = numbers[n] > numbers[first] ? n : first;
        }
        return tellings() == 0 ? -1 : first;
    }

    int seasonsUntil(int fable, int valley) {
        index(isFable(fable) && isValley(valley));
        Kept kept = new Kept();
        int until = -1;
        for (int seasons = 0; seasons <= 40 && until == -1; seasons++) {
            if (told[valley][fable]) {
                until = seasons;
            }
            passOne();
        }
        kept.putBack();
        return until;
    }

    int tellingsAfter(int seasons) {
        argument(1 <= seasons && seasons <= 40);
        Kept kept = new Kept();
        int then = passSeasons(seasons);
        kept.putBack();
        return then;
    }

    int bestPass(int seasons) {
        argument(1 <= seasons && seasons <= 20);
        int most = tellingsAfter(seasons);
        int best = -1;
        for (int number = 0; number < 36; number++) {
            int a = number / 6;
            int b = number % 6;
            if (a < b && !open[a][b]) {
                turnPass(a, b);
                int then = tellingsAfter(seasons);
                turnPass(a, b);
                if (then > most) {
                    most = then;
                    best = number;
                }
            }
        }
        return best;
    }

    double meanBeasts() {
        int beasts = 0;
        for (Fable it : fables) {
            beasts += it.beasts.size();
        }
        return fables.isEmpty() ? 0 : beasts / (double) fables.size();
    }

    /** By numbers without an end, of which the 64 lowest bits are taken only when all is added. */
    long digest() {
        BigInteger d = BigInteger.valueOf(1861);
        for (int number : numbers()) {
            d = d.multiply(BigInteger.valueOf(31)).add(BigInteger.valueOf(number));
        }
        return d.longValue();
    }

    private List<Integer> numbers() {
        List<Integer> numbers = new ArrayList<>(List.of(fables(), season(), tellings(), silenced(), favouriteMoral(),
                favouriteBeast()));
        for (int f = 0; f < fables(); f++) {
            numbers.addAll(List.of(moralOf(f), beastsOf(f), homeOf(f), parentOf(f), variantsOf(f), valleysOf(f)));
            for (int beast = 0; beast < 12; beast++) {
                numbers.add(hasBeast(f, beast) ? 1 : 0);
            }
            for (int v = 0; v < 6; v++) {
                numbers.add(isTold(f, v) ? 1 : 0);
            }
            for (int v = 0; v < 6; v++) {
                numbers.add(isBanned(f, v) ? 1 : 0);
            }
        }
        for (int v = 0; v < 6; v++) {
            numbers.addAll(List.of(toldIn(v), allowedIn(v), bansOf(v)));
            for (int w = 0; w < 6; w++) {
                numbers.add(isOpen(v, w) ? 1 : 0);
            }
        }
        return numbers;
    }

    /** What seasons change, to be put back behind a look at what would be. */
    private final class Kept {
        private final boolean[][] toldBefore = copy(told);
        private final int seasonBefore = season;
        private final int silencedBefore = silenced;

        void putBack() {
            told = toldBefore;
            season = seasonBefore;
            silenced = silencedBefore;
        }
    }
}
