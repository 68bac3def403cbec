import java.util.function.Supplier;

/**
 * "Throws ... if there is no such fable, moral, beast or valley", "if seasons is not 1 to 40": of each argument of
 * each call the last number that is allowed and the first that is not, below and above.
 */
public final class EdgeOfArgumentsTest {
    private EdgeOfArgumentsTest() {
    }

    public static void main(String[] args) {
        fablesOfChanges();
        fablesOfQuestions();
        morals();
        beasts();
        valleysOfChanges();
        valleysOfQuestions();
        seasons();
        Check.end();
    }

    private static void fablesOfChanges() {
        changed(3, "addBeast(n, 7)", Worlds::loose, (x, n) -> x.addBeast(n, 7));
        changed(4, "addVariant(n, 0, 7, 0)", Worlds::loose, (x, n) -> x.addVariant(n, 0, 7, 0));
        changed(8, "tell(n, 2)", Worlds::loose, (x, n) -> x.tell(n, 2));
        changed(9, "forget(n, 0)", Worlds::told, (x, n) -> x.forget(n, 0));
    }

    private static void fablesOfQuestions() {
        asked(11, "moralOf(n)", (x, n) -> x.moralOf(n));
        asked(12, "beastsOf(n)", (x, n) -> x.beastsOf(n));
        asked(13, "hasBeast(n, 0)", (x, n) -> x.hasBeast(n, 0));
        asked(14, "homeOf(n)", (x, n) -> x.homeOf(n));
        asked(15, "parentOf(n)", (x, n) -> x.parentOf(n));
        asked(16, "variantsOf(n)", (x, n) -> x.variantsOf(n));
        asked(17, "valleysOf(n)", (x, n) -> x.valleysOf(n));
        asked(18, "nearestAncestor(n, 0)", (x, n) -> x.nearestAncestor(n, 0));
        asked(18, "nearestAncestor(0, n)", (x, n) -> x.nearestAncestor(0, n));
        asked(18, "nearestAncestor(n, n)", (x, n) -> x.nearestAncestor(n, n));
        asked(19, "kinship(n, 0)", (x, n) -> x.kinship(n, 0));
        asked(19, "kinship(0, n)", (x, n) -> x.kinship(0, n));
        asked(19, "kinship(n, n)", (x, n) -> x.kinship(n, n));
        asked(20, "sharedBeasts(n, 0)", (x, n) -> x.sharedBeasts(n, 0));
        asked(20, "sharedBeasts(0, n)", (x, n) -> x.sharedBeasts(0, n));
        asked(20, "sharedBeasts(n, n)", (x, n) -> x.sharedBeasts(n, n));
        asked(22, "isBanned(n, 0)", (x, n) -> x.isBanned(n, 0));
        asked(23, "isTold(n, 0)", (x, n) -> x.isTold(n, 0));
        asked(35, "seasonsUntil(n, 0)", (x, n) -> x.seasonsUntil(n, 0));
    }

    private static void morals() {
        inRow(2, "moral", "addFable(n, 0, 0)", 9, Worlds::lived, (x, n) -> x.addFable(n, 0, 0));
        inRow(6, "moral", "turnMoral(0, n)", 9, Worlds::lived, (x, n) -> x.turnMoral(0, n));
        inRow(31, "moral", "fablesWithMoral(n)", 9, Worlds::lived, (x, n) -> x.fablesWithMoral(n));
    }

    private static void beasts() {
        inRow(2, "beast", "addFable(0, n, 0)", 11, Worlds::lived, (x, n) -> x.addFable(0, n, 0));
        inRow(3, "beast", "addBeast(1, n)", 11, Worlds::loose, (x, n) -> x.addBeast(1, n));
        inRow(4, "beast that goes", "addVariant(0, n, 5, 0)", 11, Worlds::loose,
                (x, n) -> x.addVariant(0, n, 5, 0));
        inRow(4, "beast that comes", "addVariant(1, 4, n, 0)", 11, Worlds::loose,
                (x, n) -> x.addVariant(1, 4, n, 0));
        inRow(7, "beast", "turnBeast(0, n)", 11, Worlds::lived, (x, n) -> x.turnBeast(0, n));
        inRow(13, "beast", "hasBeast(0, n)", 11, Worlds::lived, (x, n) -> x.hasBeast(0, n));
        inRow(32, "beast", "fablesWithBeast(n)", 11, Worlds::lived, (x, n) -> x.fablesWithBeast(n));
    }

    private static void valleysOfChanges() {
        inRow(2, "valley", "addFable(0, 0, n)", 5, Worlds::lived, (x, n) -> x.addFable(0, 0, n));
        inRow(4, "valley", "addVariant(1, 4, 7, n)", 5, Worlds::loose, (x, n) -> x.addVariant(1, 4, 7, n));
        inRow(5, "valley", "turnPass(n, 2)", 5, Worlds::lived, (x, n) -> x.turnPass(n, 2));
        inRow(5, "valley", "turnPass(2, n)", 5, Worlds::lived, (x, n) -> x.turnPass(2, n));
        inRow(6, "valley", "turnMoral(n, 0)", 5, Worlds::lived, (x, n) -> x.turnMoral(n, 0));
        inRow(7, "valley", "turnBeast(n, 0)", 5, Worlds::lived, (x, n) -> x.turnBeast(n, 0));
        inRow(8, "valley", "tell(1, n)", 5, Worlds::loose, (x, n) -> x.tell(1, n));
        inRow(9, "valley", "forget(0, n)", 5, Worlds::told, (x, n) -> x.forget(0, n));
    }

    private static void valleysOfQuestions() {
        inRow(21, "valley", "isOpen(n, 0)", 5, Worlds::lived, (x, n) -> x.isOpen(n, 0));
        inRow(21, "valley", "isOpen(0, n)", 5, Worlds::lived, (x, n) -> x.isOpen(0, n));
        inRow(21, "valley", "isOpen(n, n)", 5, Worlds::lived, (x, n) -> x.isOpen(n, n));
        inRow(22, "valley", "isBanned(0, n)", 5, Worlds::lived, (x, n) -> x.isBanned(0, n));
        inRow(23, "valley", "isTold(0, n)", 5, Worlds::lived, (x, n) -> x.isTold(0, n));
        inRow(24, "valley", "toldIn(n)", 5, Worlds::lived, (x, n) -> x.toldIn(n));
        inRow(25, "valley", "allowedIn(n)", 5, Worlds::lived, (x, n) -> x.allowedIn(n));
        inRow(26, "valley", "bansOf(n)", 5, Worlds::lived, (x, n) -> x.bansOf(n));
        inRow(35, "valley", "seasonsUntil(0, n)", 5, Worlds::lived, (x, n) -> x.seasonsUntil(0, n));
        inRow(24, "valley, without fables,", "toldIn(n)", 5, Worlds::empty, (x, n) -> x.toldIn(n));
        inRow(25, "valley, without fables,", "allowedIn(n)", 5, Worlds::empty, (x, n) -> x.allowedIn(n));
    }

    private static void seasons() {
        seasons(10, "passSeasons(n)", 40, (x, n) -> x.passSeasons(n));
        seasons(36, "tellingsAfter(n)", 40, (x, n) -> x.tellingsAfter(n));
        seasons(37, "bestPass(n)", 20, (x, n) -> x.bestPass(n));
    }

    /** A fable's number in a call that changes an index of four fables. */
    private static void changed(int promise, String call, Supplier<FableIndex> make, Edge.With with) {
        String what = "Promise " + promise + ", " + call + ", no such fable";
        Edge.notBelow(what + " below 0", Edge.NO_INDEX, 0, make, with);
        Edge.notAbove(what + " above the last of four", Edge.NO_INDEX, 3, make, with);
        Edge.notAbove(what + " in an index without fables", Edge.NO_INDEX, -1, Worlds::empty, with);
        Edge.notAbove(what + " above the last of a full index", Edge.NO_INDEX, 19, Worlds::full, with);
        Edge.goes("Promise " + promise + ", " + call + ", fable 0 is the first", make, with, 0);
        Edge.goes("Promise " + promise + ", " + call + ", fable 3 is the last of four", make, with, 3);
    }

    /** A fable's number in a question, to which there is an answer in each index that has the fable. */
    private static void asked(int promise, String call, Edge.With with) {
        changed(promise, call, Worlds::lived, with);
        Edge.goes("Promise " + promise + ", " + call + ", fable 19 is the last of a full index", Worlds::full, with,
                19);
    }

    /** A number that is allowed from 0 to the last one. */
    private static void inRow(int promise, String kind, String call, int last, Supplier<FableIndex> make,
            Edge.With with) {
        String what = "Promise " + promise + ", " + call;
        Edge.notBelow(what + ", no such " + kind + " below 0", Edge.NO_INDEX, 0, make, with);
        Edge.notAbove(what + ", no such " + kind + " above " + last, Edge.NO_INDEX, last, make, with);
        Edge.goes(what + ", " + kind + " 0 is the first", make, with, 0);
        Edge.goes(what + ", " + kind + " " + last + " is the last", make, with, last);
    }

    private static void seasons(int promise, String call, int last, Edge.With with) {
        String what = "Promise " + promise + ", " + call;
        Edge.notBelow(what + ", fewer than 1 season", Edge.NO_ARGUMENT, 1, Worlds::lived, with);
        Edge.notAbove(what + ", more than " + last + " seasons", Edge.NO_ARGUMENT, last, Worlds::lived, with);
        Edge.goes(what + ", 1 season is allowed", Worlds::lived, with, 1);
        Edge.goes(what + ", " + last + " seasons are allowed", Worlds::lived, with, last);
        Edge.notBelow(what + ", fewer than 1 season, without fables", Edge.NO_ARGUMENT, 1, Worlds::empty, with);
        Edge.notAbove(what + ", more than " + last + " seasons, without fables", Edge.NO_ARGUMENT, last,
                Worlds::empty, with);
        Edge.goes(what + ", 1 season, without fables", Worlds::empty, with, 1);
        Edge.goes(what + ", " + last + " seasons, without fables", Worlds::empty, with, last);
    }
}
