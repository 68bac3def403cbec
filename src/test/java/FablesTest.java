/** Promises 1 to 4 and 11 to 20: what fables are and how they come about. */
public final class FablesTest {
    private FablesTest() {
    }

    public static void main(String[] args) {
        promise1();
        promise2();
        promise3();
        promise4();
        promises11To17();
        promise18And19();
        promise20();
        Check.end();
    }

    private static void promise1() {
        FableIndex x = new FableIndex();
        Check.due("fables() of a new index", x.fables(), 0);
        Check.due("season() of a new index", x.season(), 0);
        Check.due("tellings() of a new index", x.tellings(), 0);
        Check.due("silenced() of a new index", x.silenced(), 0);
        for (int a = 0; a < 6; a++) {
            Check.due("bansOf of a new index", x.bansOf(a), 0);
            Check.due("toldIn of a new index", x.toldIn(a), 0);
            for (int b = 0; b < 6; b++) {
                Check.due("isOpen of a new index", x.isOpen(a, b), false);
            }
        }
        FableIndex other = new FableIndex();
        other.addFable(0, 0, 0);
        other.turnPass(0, 1);
        other.turnMoral(0, 1);
        Check.due("fables() beside another index", x.fables(), 0);
        Check.due("isOpen beside another index", x.isOpen(0, 1), false);
        Check.due("bansOf beside another index", x.bansOf(0), 0);
    }

    private static void promise2() {
        FableIndex x = new FableIndex();
        Check.noSuch(x, "addFable(-1, 0, 0)", () -> x.addFable(-1, 0, 0));
        Check.noSuch(x, "addFable(10, 0, 0)", () -> x.addFable(10, 0, 0));
        Check.noSuch(x, "addFable(0, -1, 0)", () -> x.addFable(0, -1, 0));
        Check.noSuch(x, "addFable(0, 12, 0)", () -> x.addFable(0, 12, 0));
        Check.noSuch(x, "addFable(0, 0, -1)", () -> x.addFable(0, 0, -1));
        Check.noSuch(x, "addFable(0, 0, 6)", () -> x.addFable(0, 0, 6));
        Check.noSuch(x, "addFable(MIN, 0, 0)", () -> x.addFable(Integer.MIN_VALUE, 0, 0));
        Check.noSuch(x, "addFable(0, MAX, 0)", () -> x.addFable(0, Integer.MAX_VALUE, 0));
        Check.due("addFable(9, 11, 5)", x.addFable(9, 11, 5), 0);
        Check.due("addFable(0, 0, 0)", x.addFable(0, 0, 0), 1);
        Check.due("moralOf(0)", x.moralOf(0), 9);
        Check.due("beastsOf(0)", x.beastsOf(0), 1);
        Check.due("hasBeast(0, 11)", x.hasBeast(0, 11), true);
        Check.due("homeOf(0)", x.homeOf(0), 5);
        Check.due("parentOf(0)", x.parentOf(0), -1);
        Check.due("variantsOf(0)", x.variantsOf(0), 0);
        Check.due("valleysOf(0), which is not told yet", x.valleysOf(0), 0);
        Check.due("isTold(0, 5), at its home", x.isTold(0, 5), false);
        for (int n = 2; n < 20; n++) {
            Check.due("addFable to " + n, x.addFable(n % 10, n % 12, n % 6), n);
        }
        Check.noState(x, "addFable of a full index", () -> x.addFable(0, 0, 0));
        Check.noSuch(x, "addFable of a full index, no moral", () -> x.addFable(10, 0, 0));
        Check.noSuch(x, "addFable of a full index, no beast", () -> x.addFable(0, 12, 0));
        Check.noSuch(x, "addFable of a full index, no valley", () -> x.addFable(0, 0, 6));
        Check.due("fables() of a full index", x.fables(), 20);
    }

    private static void promise3() {
        FableIndex x = new FableIndex();
        Check.noSuch(x, "addBeast without fables", () -> x.addBeast(0, 0));
        x.addFable(0, 0, 0);
        x.addFable(0, 0, 0);
        Check.due("addBeast(0, 11)", x.addBeast(0, 11), 2);
        Check.due("hasBeast(0, 11)", x.hasBeast(0, 11), true);
        Check.due("hasBeast(1, 11)", x.hasBeast(1, 11), false);
        for (int beast = 1; beast < 11; beast++) {
            Check.due("addBeast(0, " + beast + ")", x.addBeast(0, beast), beast + 2);
        }
        Check.noState(x, "addBeast(0, 0), which it has", () -> x.addBeast(0, 0));
        Check.noSuch(x, "addBeast(2, 0)", () -> x.addBeast(2, 0));
        Check.noSuch(x, "addBeast(-1, 0)", () -> x.addBeast(-1, 0));
        Check.noSuch(x, "addBeast(1, 12)", () -> x.addBeast(1, 12));
        Check.noSuch(x, "addBeast(1, -1)", () -> x.addBeast(1, -1));
        x.addVariant(1, 0, 3, 0);
        Check.noState(x, "addBeast(1, 5), which has a variant", () -> x.addBeast(1, 5));
        Check.noSuch(x, "addBeast(1, 12), which has a variant", () -> x.addBeast(1, 12));
        Check.due("addBeast(2, 0) to a variant", x.addBeast(2, 0), 2);
        // A telling where the new beast is banned stays until the next season.
        x.turnBeast(4, 7);
        x.tell(2, 4);
        Check.due("addBeast(2, 7)", x.addBeast(2, 7), 3);
        Check.due("isTold(2, 4)", x.isTold(2, 4), true);
        Check.due("isBanned(2, 4)", x.isBanned(2, 4), true);
    }

    private static void promise4() {
        FableIndex x = new FableIndex();
        Check.noSuch(x, "addVariant without fables", () -> x.addVariant(0, 0, 1, 0));
        x.addFable(7, 0, 1);
        x.addBeast(0, 1);
        x.tell(0, 3);
        Check.noSuch(x, "addVariant(1, 0, 2, 0)", () -> x.addVariant(1, 0, 2, 0));
        Check.noSuch(x, "addVariant(-1, 0, 2, 0)", () -> x.addVariant(-1, 0, 2, 0));
        Check.noSuch(x, "addVariant(0, -1, 2, 0)", () -> x.addVariant(0, -1, 2, 0));
        Check.noSuch(x, "addVariant(0, 12, 2, 0)", () -> x.addVariant(0, 12, 2, 0));
        Check.noSuch(x, "addVariant(0, 0, -1, 0)", () -> x.addVariant(0, 0, -1, 0));
        Check.noSuch(x, "addVariant(0, 0, 12, 0)", () -> x.addVariant(0, 0, 12, 0));
        Check.noSuch(x, "addVariant(0, 0, 2, -1)", () -> x.addVariant(0, 0, 2, -1));
        Check.noSuch(x, "addVariant(0, 0, 2, 6)", () -> x.addVariant(0, 0, 2, 6));
        Check.noSuch(x, "addVariant(0, 5, 1, 6)", () -> x.addVariant(0, 5, 1, 6));
        Check.noState(x, "addVariant(0, 2, 3, 0), it has not 2", () -> x.addVariant(0, 2, 3, 0));
        Check.noState(x, "addVariant(0, 0, 1, 0), it has 1", () -> x.addVariant(0, 0, 1, 0));
        Check.noState(x, "addVariant(0, 0, 0, 0)", () -> x.addVariant(0, 0, 0, 0));
        Check.noState(x, "addVariant(0, 2, 2, 0)", () -> x.addVariant(0, 2, 2, 0));
        Check.due("addVariant(0, 0, 11, 5)", x.addVariant(0, 0, 11, 5), 1);
        Check.due("moralOf(1)", x.moralOf(1), 7);
        Check.due("beastsOf(1)", x.beastsOf(1), 2);
        Check.due("hasBeast(1, 0)", x.hasBeast(1, 0), false);
        Check.due("hasBeast(1, 1)", x.hasBeast(1, 1), true);
        Check.due("hasBeast(1, 11)", x.hasBeast(1, 11), true);
        Check.due("homeOf(1)", x.homeOf(1), 5);
        Check.due("parentOf(1)", x.parentOf(1), 0);
        Check.due("valleysOf(1), not told yet", x.valleysOf(1), 0);
        Check.due("hasBeast(0, 0) of the parent", x.hasBeast(0, 0), true);
        Check.due("hasBeast(0, 11) of the parent", x.hasBeast(0, 11), false);
        Check.due("variantsOf(0)", x.variantsOf(0), 1);
        Check.due("addVariant(0, 0, 11, 5), once more", x.addVariant(0, 0, 11, 5), 2);
        for (int n = 3; n < 20; n++) {
            x.addFable(0, 0, 0);
        }
        Check.noState(x, "addVariant of a full index", () -> x.addVariant(0, 0, 2, 0));
        Check.noSuch(x, "addVariant of a full index, no fable", () -> x.addVariant(20, 0, 2, 0));
        Check.noSuch(x, "addVariant of a full index, no beast", () -> x.addVariant(0, 0, 12, 0));
        Check.noSuch(x, "addVariant of a full index, no valley", () -> x.addVariant(0, 0, 2, 6));
    }

    private static void promises11To17() {
        FableIndex x = new FableIndex();
        x.addFable(3, 4, 2);
        x.addFable(9, 11, 5);
        x.addVariant(0, 4, 6, 1);
        x.addVariant(0, 4, 7, 0);
        x.addVariant(3, 7, 8, 3);
        x.addBeast(4, 0);
        x.tell(1, 0);
        x.tell(1, 5);
        for (int bad : new int[] {-1, 5, 20, Integer.MIN_VALUE, Integer.MAX_VALUE}) {
            Check.noSuch(x, "moralOf(" + bad + ")", () -> x.moralOf(bad));
            Check.noSuch(x, "beastsOf(" + bad + ")", () -> x.beastsOf(bad));
            Check.noSuch(x, "hasBeast(" + bad + ", 0)", () -> x.hasBeast(bad, 0));
            Check.noSuch(x, "homeOf(" + bad + ")", () -> x.homeOf(bad));
            Check.noSuch(x, "parentOf(" + bad + ")", () -> x.parentOf(bad));
            Check.noSuch(x, "variantsOf(" + bad + ")", () -> x.variantsOf(bad));
            Check.noSuch(x, "valleysOf(" + bad + ")", () -> x.valleysOf(bad));
            Check.noSuch(x, "nearestAncestor(" + bad + ", 0)", () -> x.nearestAncestor(bad, 0));
            Check.noSuch(x, "nearestAncestor(0, " + bad + ")", () -> x.nearestAncestor(0, bad));
            Check.noSuch(x, "kinship(" + bad + ", 0)", () -> x.kinship(bad, 0));
            Check.noSuch(x, "kinship(0, " + bad + ")", () -> x.kinship(0, bad));
            Check.noSuch(x, "sharedBeasts(" + bad + ", 0)", () -> x.sharedBeasts(bad, 0));
            Check.noSuch(x, "sharedBeasts(0, " + bad + ")", () -> x.sharedBeasts(0, bad));
        }
        Check.noSuch(x, "hasBeast(0, -1)", () -> x.hasBeast(0, -1));
        Check.noSuch(x, "hasBeast(0, 12)", () -> x.hasBeast(0, 12));
        int[] morals = {3, 9, 3, 3, 3};
        int[] beasts = {1, 1, 1, 1, 2};
        int[] homes = {2, 5, 1, 0, 3};
        int[] parents = {-1, -1, 0, 0, 3};
        int[] variants = {2, 0, 0, 1, 0};
        int[] valleys = {0, 2, 0, 0, 0};
        for (int fable = 0; fable < 5; fable++) {
            Check.due("moralOf(" + fable + ")", x.moralOf(fable), morals[fable]);
            Check.due("beastsOf(" + fable + ")", x.beastsOf(fable), beasts[fable]);
            Check.due("homeOf(" + fable + ")", x.homeOf(fable), homes[fable]);
            Check.due("parentOf(" + fable + ")", x.parentOf(fable), parents[fable]);
            Check.due("variantsOf(" + fable + ")", x.variantsOf(fable), variants[fable]);
            Check.due("valleysOf(" + fable + ")", x.valleysOf(fable), valleys[fable]);
        }
        for (int beast = 0; beast < 12; beast++) {
            Check.due("hasBeast(4, " + beast + ")", x.hasBeast(4, beast), beast == 0 || beast == 8);
        }
    }

    /** 0 has the variants 1 and 2; 1 has 3, and 3 has 4; 5 stands alone, and has 6. */
    private static void promise18And19() {
        FableIndex x = new FableIndex();
        x.addFable(0, 0, 0);
        x.addVariant(0, 0, 1, 0);
        x.addVariant(0, 0, 2, 0);
        x.addVariant(1, 1, 3, 0);
        x.addVariant(3, 3, 4, 0);
        x.addFable(0, 0, 0);
        x.addVariant(5, 0, 1, 0);
        int[][] nearest = {
            {0, 0, 0, 0, 0, -1, -1},
            {0, 1, 0, 1, 1, -1, -1},
            {0, 0, 2, 0, 0, -1, -1},
            {0, 1, 0, 3, 3, -1, -1},
            {0, 1, 0, 3, 4, -1, -1},
            {-1, -1, -1, -1, -1, 5, 5},
            {-1, -1, -1, -1, -1, 5, 6},
        };
        int[][] steps = {
            {0, 1, 1, 2, 3, -1, -1},
            {1, 0, 2, 1, 2, -1, -1},
            {1, 2, 0, 3, 4, -1, -1},
            {2, 1, 3, 0, 1, -1, -1},
            {3, 2, 4, 1, 0, -1, -1},
            {-1, -1, -1, -1, -1, 0, 1},
            {-1, -1, -1, -1, -1, 1, 0},
        };
        for (int a = 0; a < 7; a++) {
            for (int b = 0; b < 7; b++) {
                Check.due("nearestAncestor(" + a + ", " + b + ")", x.nearestAncestor(a, b), nearest[a][b]);
                Check.due("kinship(" + a + ", " + b + ")", x.kinship(a, b), steps[a][b]);
            }
        }
        longestLine();
    }

    /** Each fable a variant of the one before, as deep as 20 fables reach. */
    private static void longestLine() {
        FableIndex x = new FableIndex();
        x.addFable(0, 0, 0);
        for (int n = 1; n < 20; n++) {
            x.addVariant(n - 1, (n - 1) % 12, n % 12, 0);
        }
        Check.due("kinship(0, 19)", x.kinship(0, 19), 19);
        Check.due("kinship(19, 0)", x.kinship(19, 0), 19);
        Check.due("nearestAncestor(19, 18)", x.nearestAncestor(19, 18), 18);
        Check.due("nearestAncestor(19, 19)", x.nearestAncestor(19, 19), 19);
    }

    private static void promise20() {
        FableIndex x = new FableIndex();
        x.addFable(0, 0, 0);
        x.addBeast(0, 5);
        x.addBeast(0, 11);
        x.addFable(0, 11, 0);
        x.addBeast(1, 0);
        x.addFable(0, 3, 0);
        Check.due("sharedBeasts(0, 1)", x.sharedBeasts(0, 1), 2);
        Check.due("sharedBeasts(1, 0)", x.sharedBeasts(1, 0), 2);
        Check.due("sharedBeasts(0, 0)", x.sharedBeasts(0, 0), 3);
        Check.due("sharedBeasts(0, 2)", x.sharedBeasts(0, 2), 0);
    }
}
