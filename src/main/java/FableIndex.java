/**
 * An index of fables: what they are, where they are told, and how they go from valley to valley.
 * A set of fables, beasts, morals or valleys is held as the bits of an int, bit n for number n.
 */
public final class FableIndex {
    private static final int VALLEYS = 6;
    private static final int FABLES = 20;
    private static final int MORALS = 10;
    private static final int BEASTS = 12;
    private static final int MOST_SEASONS = 40;
    private static final int MOST_SEASONS_OF_A_PASS = 20;
    private static final int NONE = -1;
    private static final long FIRST_CHECKSUM = 1861L;

    private final Book book;
    private final Land land;
    /** Land on which is tried what would be, so that nothing is changed in the real one. */
    private final Land trial;
    private int season;

    public FableIndex() {
        book = new Book();
        land = new Land();
        trial = new Land();
        season = 0;
    }

    // ---- fables

    public int addFable(int moral, int beast, int home) throws IndexOutOfBoundsException, IllegalStateException {
        needMoral(moral);
        needBeast(beast);
        needValley(home);
        needFreePage();
        return book.write(moral, 1 << beast, home, NONE);
    }

    public int addBeast(int fable, int beast) throws IndexOutOfBoundsException, IllegalStateException {
        needFable(fable);
        needBeast(beast);
        if (has(book.beasts[fable], beast)) {
            throw new IllegalStateException("the fable has this beast");
        }
        if (book.variants[fable] != 0) {
            throw new IllegalStateException("the fable has a variant");
        }
        book.beasts[fable] |= 1 << beast;
        return size(book.beasts[fable]);
    }

    public int addVariant(int fable, int gone, int comes, int home)
            throws IndexOutOfBoundsException, IllegalStateException {
        needFable(fable);
        needBeast(gone);
        needBeast(comes);
        needValley(home);
        needFreePage();
        int beasts = book.beasts[fable];
        if (!has(beasts, gone)) {
            throw new IllegalStateException("the fable has not the beast that goes");
        }
        if (has(beasts, comes)) {
            throw new IllegalStateException("the fable has the beast that comes");
        }
        return book.write(book.moral[fable], turned(turned(beasts, gone), comes), home, fable);
    }

    // ---- valleys

    public boolean turnPass(int a, int b) throws IndexOutOfBoundsException, IllegalArgumentException {
        needValley(a);
        needValley(b);
        if (a == b) {
            throw new IllegalArgumentException("a pass lies between two valleys");
        }
        land.turnWay(a, b);
        return has(land.ways[a], b);
    }

    public boolean turnMoral(int valley, int moral) throws IndexOutOfBoundsException {
        needValley(valley);
        needMoral(moral);
        land.bannedMorals[valley] = turned(land.bannedMorals[valley], moral);
        return has(land.bannedMorals[valley], moral);
    }

    public boolean turnBeast(int valley, int beast) throws IndexOutOfBoundsException {
        needValley(valley);
        needBeast(beast);
        land.bannedBeasts[valley] = turned(land.bannedBeasts[valley], beast);
        return has(land.bannedBeasts[valley], beast);
    }

    public int tell(int fable, int valley) throws IndexOutOfBoundsException, IllegalStateException {
        needFable(fable);
        needValley(valley);
        if (has(land.told[valley], fable)) {
            throw new IllegalStateException("the fable is told there");
        }
        if (land.bans(book, fable, valley)) {
            throw new IllegalStateException("the fable is banned there");
        }
        land.told[valley] |= 1 << fable;
        return land.count(1 << fable);
    }

    public int forget(int fable, int valley) throws IndexOutOfBoundsException, IllegalStateException {
        needFable(fable);
        needValley(valley);
        if (!has(land.told[valley], fable)) {
            throw new IllegalStateException("the fable is not told there");
        }
        land.told[valley] = turned(land.told[valley], fable);
        return land.count(1 << fable);
    }

    public int passSeasons(int seasons) throws IllegalArgumentException {
        needSeasons(seasons, MOST_SEASONS);
        land.live(book, seasons);
        season += seasons;
        return land.count(book.all());
    }

    // ---- what a fable is

    public int moralOf(int fable) throws IndexOutOfBoundsException {
        needFable(fable);
        return book.moral[fable];
    }

    public int beastsOf(int fable) throws IndexOutOfBoundsException {
        needFable(fable);
        return size(book.beasts[fable]);
    }

    public boolean hasBeast(int fable, int beast) throws IndexOutOfBoundsException {
        needFable(fable);
        needBeast(beast);
        return has(book.beasts[fable], beast);
    }

    public int homeOf(int fable) throws IndexOutOfBoundsException {
        needFable(fable);
        return book.home[fable];
    }

    public int parentOf(int fable) throws IndexOutOfBoundsException {
        needFable(fable);
        return book.parent[fable];
    }

    public int variantsOf(int fable) throws IndexOutOfBoundsException {
        needFable(fable);
        return size(book.variants[fable]);
    }

    public int valleysOf(int fable) throws IndexOutOfBoundsException {
        needFable(fable);
        return land.count(1 << fable);
    }

    public int nearestAncestor(int a, int b) throws IndexOutOfBoundsException {
        needFable(a);
        needFable(b);
        return greatest(book.ancestors[a] & book.ancestors[b]);
    }

    public int kinship(int a, int b) throws IndexOutOfBoundsException {
        needFable(a);
        needFable(b);
        if ((book.ancestors[a] & book.ancestors[b]) == 0) {
            return NONE;
        }
        // The way leads over the nearest ancestor, and takes a step for each ancestor
        // that the one has below it and the other has not.
        return size(book.ancestors[a] ^ book.ancestors[b]);
    }

    public int sharedBeasts(int a, int b) throws IndexOutOfBoundsException {
        needFable(a);
        needFable(b);
        return size(book.beasts[a] & book.beasts[b]);
    }

    // ---- what a valley is

    public boolean isOpen(int a, int b) throws IndexOutOfBoundsException {
        needValley(a);
        needValley(b);
        return has(land.ways[a], b);
    }

    public boolean isBanned(int fable, int valley) throws IndexOutOfBoundsException {
        needFable(fable);
        needValley(valley);
        return land.bans(book, fable, valley);
    }

    public boolean isTold(int fable, int valley) throws IndexOutOfBoundsException {
        needFable(fable);
        needValley(valley);
        return has(land.told[valley], fable);
    }

    public int toldIn(int valley) throws IndexOutOfBoundsException {
        needValley(valley);
        return size(land.told[valley]);
    }

    public int allowedIn(int valley) throws IndexOutOfBoundsException {
        needValley(valley);
        return size(land.welcome(book, valley));
    }

    public int bansOf(int valley) throws IndexOutOfBoundsException {
        needValley(valley);
        return size(land.bannedMorals[valley]) + size(land.bannedBeasts[valley]);
    }

    // ---- the index

    public int fables() {
        return book.count;
    }

    public int season() {
        return season;
    }

    public int tellings() {
        return land.count(book.all());
    }

    public int silenced() {
        return land.hushed;
    }

    public int fablesWithMoral(int moral) throws IndexOutOfBoundsException {
        needMoral(moral);
        return size(book.withMoral(moral));
    }

    public int fablesWithBeast(int beast) throws IndexOutOfBoundsException {
        needBeast(beast);
        return size(book.withBeast(beast));
    }

    public int favouriteMoral() {
        int favourite = NONE;
        int most = 0;
        for (int moral = 0; moral < MORALS; moral++) {
            int told = land.count(book.withMoral(moral));
            if (told > most) {
                most = told;
                favourite = moral;
            }
        }
        return favourite;
    }

    public int favouriteBeast() {
        int favourite = NONE;
        int most = 0;
        for (int beast = 0; beast < BEASTS; beast++) {
            int told = land.count(book.withBeast(beast));
            if (told > most) {
                most = told;
                favourite = beast;
            }
        }
        return favourite;
    }

    // ---- what would be

    public int seasonsUntil(int fable, int valley) throws IndexOutOfBoundsException {
        needFable(fable);
        needValley(valley);
        trial.become(land);
        for (int seasons = 0; seasons < MOST_SEASONS; seasons++) {
            if (has(trial.told[valley], fable)) {
                return seasons;
            }
            trial.live(book, 1);
        }
        return has(trial.told[valley], fable) ? MOST_SEASONS : NONE;
    }

    public int tellingsAfter(int seasons) throws IllegalArgumentException {
        needSeasons(seasons, MOST_SEASONS);
        trial.become(land);
        return tellingsOfTrial(seasons);
    }

    public int bestPass(int seasons) throws IllegalArgumentException {
        needSeasons(seasons, MOST_SEASONS_OF_A_PASS);
        trial.become(land);
        int most = tellingsOfTrial(seasons);
        int best = NONE;
        for (int a = 0; a < VALLEYS; a++) {
            for (int b = a + 1; b < VALLEYS; b++) {
                int told = has(land.ways[a], b) ? 0 : tellingsWithPass(a, b, seasons);
                if (told > most) {
                    most = told;
                    best = VALLEYS * a + b;
                }
            }
        }
        return best;
    }

    public double meanBeasts() {
        if (book.count == 0) {
            return 0.0;
        }
        int beasts = 0;
        for (int fable = 0; fable < book.count; fable++) {
            beasts += size(book.beasts[fable]);
        }
        return (double) beasts / (double) book.count;
    }

    public long digest() {
        long d = FIRST_CHECKSUM;
        d = mixed(d, fables());
        d = mixed(d, season());
        d = mixed(d, tellings());
        d = mixed(d, silenced());
        d = mixed(d, favouriteMoral());
        d = mixed(d, favouriteBeast());
        for (int fable = 0; fable < book.count; fable++) {
            d = mixedWithFable(d, fable);
        }
        for (int valley = 0; valley < VALLEYS; valley++) {
            d = mixedWithValley(d, valley);
        }
        return d;
    }

    private long mixedWithFable(long before, int fable) {
        long d = before;
        d = mixed(d, moralOf(fable));
        d = mixed(d, beastsOf(fable));
        d = mixed(d, homeOf(fable));
        d = mixed(d, parentOf(fable));
        d = mixed(d, variantsOf(fable));
        d = mixed(d, valleysOf(fable));
        for (int beast = 0; beast < BEASTS; beast++) {
            d = mixed(d, hasBeast(fable, beast) ? 1 : 0);
        }
        for (int valley = 0; valley < VALLEYS; valley++) {
            d = mixed(d, isTold(fable, valley) ? 1 : 0);
        }
        for (int valley = 0; valley < VALLEYS; valley++) {
            d = mixed(d, isBanned(fable, valley) ? 1 : 0);
        }
        return d;
    }

    private long mixedWithValley(long before, int valley) {
        long d = before;
        d = mixed(d, toldIn(valley));
        d = mixed(d, allowedIn(valley));
        d = mixed(d, bansOf(valley));
        for (int other = 0; other < VALLEYS; other++) {
            d = mixed(d, isOpen(valley, other) ? 1 : 0);
        }
        return d;
    }

    private static long mixed(long d, int x) {
        return d * 31L + x;
    }

    private int tellingsWithPass(int a, int b, int seasons) {
        trial.become(land);
        trial.turnWay(a, b);
        return tellingsOfTrial(seasons);
    }

    private int tellingsOfTrial(int seasons) {
        trial.live(book, seasons);
        return trial.count(book.all());
    }

    // ---- what a call needs

    private void needFable(int fable) {
        if (fable < 0 || fable >= book.count) {
            throw new IndexOutOfBoundsException("no such fable");
        }
    }

    private void needFreePage() {
        if (book.count >= FABLES) {
            throw new IllegalStateException("there are 20 fables");
        }
    }

    private static void needMoral(int moral) {
        if (moral < 0 || moral >= MORALS) {
            throw new IndexOutOfBoundsException("no such moral");
        }
    }

    private static void needBeast(int beast) {
        if (beast < 0 || beast >= BEASTS) {
            throw new IndexOutOfBoundsException("no such beast");
        }
    }

    private static void needValley(int valley) {
        if (valley < 0 || valley >= VALLEYS) {
            throw new IndexOutOfBoundsException("no such valley");
        }
    }

    private static void needSeasons(int seasons, int most) {
        if (seasons < 1 || seasons > most) {
            throw new IllegalArgumentException("too few seasons or too many");
        }
    }

    // ---- sets of numbers

    private static boolean has(int set, int number) {
        return ((set >> number) & 1) != 0;
    }

    private static int turned(int set, int number) {
        return set ^ (1 << number);
    }

    private static int size(int set) {
        return Integer.bitCount(set);
    }

    /** The greatest number of a set of fables, -1 of an empty one. */
    private static int greatest(int set) {
        for (int fable = FABLES - 1; fable >= 0; fable--) {
            if (has(set, fable)) {
                return fable;
            }
        }
        return NONE;
    }

    /** The set of the smallest number alone; of an empty one, an empty one. */
    private static int smallestAlone(int set) {
        return set & -set;
    }

    /** The fables that are written down; the rows go by their numbers. */
    private static final class Book {
        int count;
        final int[] moral;
        final int[] beasts;
        final int[] home;
        final int[] parent;
        final int[] variants;
        final int[] ancestors;

        Book() {
            count = 0;
            moral = new int[FABLES];
            beasts = new int[FABLES];
            home = new int[FABLES];
            parent = new int[FABLES];
            variants = new int[FABLES];
            ancestors = new int[FABLES];
        }

        /** Writes down a fable, for which there is a place, and answers its number. */
        int write(int itsMoral, int itsBeasts, int itsHome, int itsParent) {
            int fable = count;
            moral[fable] = itsMoral;
            beasts[fable] = itsBeasts;
            home[fable] = itsHome;
            parent[fable] = itsParent;
            variants[fable] = 0;
            ancestors[fable] = 1 << fable;
            if (itsParent >= 0) {
                variants[itsParent] |= 1 << fable;
                ancestors[fable] |= ancestors[itsParent];
            }
            count++;
            return fable;
        }

        int all() {
            return (1 << count) - 1;
        }

        int withMoral(int wanted) {
            int found = 0;
            for (int fable = 0; fable < count; fable++) {
                if (moral[fable] == wanted) {
                    found |= 1 << fable;
                }
            }
            return found;
        }

        int withBeast(int wanted) {
            int found = 0;
            for (int fable = 0; fable < count; fable++) {
                if (has(beasts[fable], wanted)) {
                    found |= 1 << fable;
                }
            }
            return found;
        }
    }

    /** The valleys, what is banned and told in them, and the ways between them; the rows go by their numbers. */
    private static final class Land {
        final int[] ways;
        final int[] bannedMorals;
        final int[] bannedBeasts;
        final int[] told;
        /** What a season needs until it ends: what is not banned, and what is told behind its first step. */
        final int[] allowed;
        final int[] kept;
        int hushed;

        Land() {
            ways = new int[VALLEYS];
            bannedMorals = new int[VALLEYS];
            bannedBeasts = new int[VALLEYS];
            told = new int[VALLEYS];
            allowed = new int[VALLEYS];
            kept = new int[VALLEYS];
            hushed = 0;
        }

        void become(Land other) {
            for (int valley = 0; valley < VALLEYS; valley++) {
                ways[valley] = other.ways[valley];
                bannedMorals[valley] = other.bannedMorals[valley];
                bannedBeasts[valley] = other.bannedBeasts[valley];
                told[valley] = other.told[valley];
            }
            hushed = other.hushed;
        }

        void turnWay(int a, int b) {
            ways[a] = turned(ways[a], b);
            ways[b] = turned(ways[b], a);
        }

        boolean bans(Book book, int fable, int valley) {
            return has(bannedMorals[valley], book.moral[fable])
                    || (bannedBeasts[valley] & book.beasts[fable]) != 0;
        }

        /** The fables that are not banned in a valley. */
        int welcome(Book book, int valley) {
            int found = 0;
            for (int fable = 0; fable < book.count; fable++) {
                if (!bans(book, fable, valley)) {
                    found |= 1 << fable;
                }
            }
            return found;
        }

        /** How many tellings there are of some fables. */
        int count(int some) {
            int tellings = 0;
            for (int valley = 0; valley < VALLEYS; valley++) {
                tellings += size(told[valley] & some);
            }
            return tellings;
        }

        void live(Book book, int seasons) {
            for (int valley = 0; valley < VALLEYS; valley++) {
                allowed[valley] = welcome(book, valley);
            }
            // A season that changes nothing is followed by none that does, for bans and ways stay.
            boolean changing = true;
            for (int gone = 0; gone < seasons && changing; gone++) {
                hush();
                changing = spread(book);
            }
        }

        private void hush() {
            for (int valley = 0; valley < VALLEYS; valley++) {
                kept[valley] = told[valley] & allowed[valley];
                hushed += size(told[valley] & ~allowed[valley]);
            }
        }

        /** Answers whether something else is told as the season ends than was as it began. */
        private boolean spread(Book book) {
            boolean changed = false;
            for (int valley = 0; valley < VALLEYS; valley++) {
                int then = kept[valley] | admitted(book, valley, arriving(valley));
                changed = changed || then != told[valley];
                told[valley] = then;
            }
            return changed;
        }

        private int arriving(int valley) {
            int fables = 0;
            for (int from = 0; from < VALLEYS; from++) {
                if (has(ways[valley], from)) {
                    fables |= kept[from];
                }
            }
            return fables;
        }

        /** What is told in a valley of the fables that arrive, or in their place. */
        private int admitted(Book book, int valley, int fables) {
            int admitted = fables & allowed[valley];
            int refused = fables & ~allowed[valley];
            for (int fable = 0; fable < book.count; fable++) {
                if (has(refused, fable) && !has(bannedMorals[valley], book.moral[fable])) {
                    admitted |= smallestAlone(book.variants[fable] & allowed[valley]);
                }
            }
            return admitted;
        }
    }
}
