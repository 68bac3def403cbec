/** Promises 11 to 26 at their edges: what a fable is and what a valley is, in an empty index and in a full one. */
public final class EdgeOfAsksTest {
    private EdgeOfAsksTest() {
    }

    public static void main(String[] args) {
        whatAFableIs();
        kinOfAFable();
        valleysOfAFable();
        nearestAncestor();
        kinship();
        sharedBeasts();
        passes();
        bans();
        tellings();
        allowed();
        bansCounted();
        questionsChangeNothing();
        Check.end();
    }

    private static void whatAFableIs() {
        Check.test("Promise 11: the morals 0 and 9, and a variant's, which is its parent's", () -> {
            Check.due("moralOf(0)", Worlds.full().moralOf(0), 0);
            Check.due("moralOf(9)", Worlds.full().moralOf(9), 9);
            Check.due("moralOf(19)", Worlds.full().moralOf(19), 9);
        });
        Check.test("Promise 12: one beast at least, twelve at most", () -> {
            FableIndex x = new FableIndex();
            x.addFable(0, 11, 0);
            Check.due("beastsOf(0)", x.beastsOf(0), 1);
            for (int beast = 0; beast < 11; beast++) {
                x.addBeast(0, beast);
                Check.due("beastsOf(0)", x.beastsOf(0), beast + 2);
            }
        });
        Check.test("Promise 13: it has the first and the last beast, and those between not", () -> {
            FableIndex x = Worlds.loose();
            for (int beast = 0; beast < 12; beast++) {
                Check.due("hasBeast(0, " + beast + ")", x.hasBeast(0, beast), beast == 0 || beast == 11);
            }
        });
        Check.test("Promise 13: a beast that is banned is had all the same", () -> {
            FableIndex x = Worlds.loose();
            for (int valley = 0; valley < 6; valley++) {
                x.turnBeast(valley, 11);
            }
            Check.due("hasBeast(0, 11)", x.hasBeast(0, 11), true);
        });
        Check.test("Promise 14: the homes 0 and 5, and a variant's, which is its own", () -> {
            Check.due("homeOf(0)", Worlds.full().homeOf(0), 0);
            Check.due("homeOf(5)", Worlds.full().homeOf(5), 5);
            Check.due("homeOf(0)", Worlds.lived().homeOf(0), 2);
            Check.due("homeOf(1)", Worlds.lived().homeOf(1), 0);
        });
    }

    private static void kinOfAFable() {
        Check.test("Promise 15: -1 without a parent, for the first fable and for a later one", () -> {
            Check.due("parentOf(0)", Worlds.lived().parentOf(0), -1);
            Check.due("parentOf(2)", Worlds.lived().parentOf(2), -1);
        });
        Check.test("Promise 15: the parent can be fable 0, and fable 18", () -> {
            Check.due("parentOf(1)", Worlds.chain().parentOf(1), 0);
            Check.due("parentOf(19)", Worlds.chain().parentOf(19), 18);
            Check.due("parentOf(19)", Worlds.brood().parentOf(19), 0);
        });
        Check.test("Promise 16: 0 without variants, for the last of a chain too", () -> {
            Check.due("variantsOf(2)", Worlds.lived().variantsOf(2), 0);
            Check.due("variantsOf(19)", Worlds.chain().variantsOf(19), 0);
        });
        Check.test("Promise 16: nineteen variants at most", () ->
                Check.due("variantsOf(0)", Worlds.brood().variantsOf(0), 19));
        Check.test("Promise 16: a variant's variants are not the first one's", () -> {
            FableIndex x = Worlds.chain();
            for (int fable = 0; fable < 19; fable++) {
                Check.due("variantsOf(" + fable + ")", x.variantsOf(fable), 1);
            }
        });
    }

    private static void valleysOfAFable() {
        Check.test("Promise 17: 0 if it is not told, 6 if it is told everywhere", () -> {
            Check.due("valleysOf(0)", Worlds.full().valleysOf(0), 0);
            Check.due("valleysOf(0)", Worlds.brimful().valleysOf(0), 6);
            Check.due("valleysOf(19)", Worlds.brimful().valleysOf(19), 6);
        });
        Check.test("Promise 17: where it is banned but not silenced yet, it counts", () -> {
            FableIndex x = Worlds.forbidden();
            Check.due("valleysOf(3)", x.valleysOf(3), 6);
            x.passSeasons(1);
            Check.due("valleysOf(3)", x.valleysOf(3), 0);
        });
    }

    private static void nearestAncestor() {
        Check.test("Promise 18: a fable's nearest ancestor with itself is itself", () -> {
            FableIndex x = Worlds.chain();
            for (int fable = 0; fable < 20; fable++) {
                Check.due("nearestAncestor of " + fable, x.nearestAncestor(fable, fable), fable);
            }
        });
        Check.test("Promise 18: of a fable and one of its ancestors it is that ancestor, at all distances", () -> {
            FableIndex x = Worlds.chain();
            for (int fable = 0; fable < 20; fable++) {
                Check.due("nearestAncestor(19, " + fable + ")", x.nearestAncestor(19, fable), fable);
                Check.due("nearestAncestor(" + fable + ", 19)", x.nearestAncestor(fable, 19), fable);
            }
        });
        Check.test("Promise 18: of two variants of one fable it is that fable, 0 too", () -> {
            FableIndex x = Worlds.brood();
            Check.due("nearestAncestor(1, 19)", x.nearestAncestor(1, 19), 0);
            Check.due("nearestAncestor(19, 1)", x.nearestAncestor(19, 1), 0);
        });
        Check.test("Promise 18: -1 if they are not akin", () -> {
            FableIndex x = Worlds.full();
            Check.due("nearestAncestor(0, 1)", x.nearestAncestor(0, 1), -1);
            Check.due("nearestAncestor(19, 0)", x.nearestAncestor(19, 0), -1);
            Check.due("nearestAncestor(0, 19)", x.nearestAncestor(0, 19), -1);
            Check.due("nearestAncestor(10, 19)", x.nearestAncestor(10, 19), -1);
        });
        Check.test("Promise 18: of several ancestors together it is the greatest number", () -> {
            FableIndex x = Worlds.lived();
            x.addVariant(1, 2, 7, 0);
            Check.due("nearestAncestor(3, 4)", x.nearestAncestor(3, 4), 1);
            Check.due("nearestAncestor(4, 3)", x.nearestAncestor(4, 3), 1);
        });
    }

    private static void kinship() {
        Check.test("Promise 19: no step from a fable to itself", () -> {
            for (int fable = 0; fable < 20; fable++) {
                Check.due("kinship", Worlds.chain().kinship(fable, fable), 0);
            }
        });
        Check.test("Promise 19: one step to the parent, and one to a variant", () -> {
            Check.due("kinship(19, 18)", Worlds.chain().kinship(19, 18), 1);
            Check.due("kinship(18, 19)", Worlds.chain().kinship(18, 19), 1);
        });
        Check.test("Promise 19: two steps from variant to variant", () -> {
            Check.due("kinship(1, 19)", Worlds.brood().kinship(1, 19), 2);
            Check.due("kinship(19, 1)", Worlds.brood().kinship(19, 1), 2);
        });
        Check.test("Promise 19: nineteen steps at most, up or down", () -> {
            FableIndex x = Worlds.chain();
            for (int fable = 0; fable < 20; fable++) {
                Check.due("kinship(0, " + fable + ")", x.kinship(0, fable), fable);
                Check.due("kinship(19, " + fable + ")", x.kinship(19, fable), 19 - fable);
            }
        });
        Check.test("Promise 19: nineteen steps from the end of one line to the end of another", () -> {
            FableIndex x = new FableIndex();
            x.addFable(0, 0, 0);
            x.addVariant(0, 0, 1, 0);
            x.addVariant(0, 0, 2, 0);
            for (int n = 3; n < 20; n++) {
                x.addVariant(n - 2, (n - 2) % 12, n % 12, 0);
            }
            Check.due("kinship(18, 19)", x.kinship(18, 19), 19);
            Check.due("nearestAncestor(18, 19)", x.nearestAncestor(18, 19), 0);
        });
        Check.test("Promise 19: -1 if they are not akin, though they are alike", () -> {
            FableIndex x = new FableIndex();
            x.addFable(0, 0, 0);
            x.addFable(0, 0, 0);
            Check.due("kinship(0, 1)", x.kinship(0, 1), -1);
            Check.due("kinship(1, 0)", x.kinship(1, 0), -1);
        });
    }

    private static void sharedBeasts() {
        Check.test("Promise 20: a fable has all its beasts together with itself", () -> {
            Check.due("sharedBeasts(0, 0)", Worlds.loose().sharedBeasts(0, 0), 2);
            Check.due("sharedBeasts(1, 1)", Worlds.loose().sharedBeasts(1, 1), 1);
        });
        Check.test("Promise 20: 0 if both have none together", () ->
                Check.due("sharedBeasts(0, 1)", Worlds.loose().sharedBeasts(0, 1), 0));
        Check.test("Promise 20: fables that are not akin can have a beast together", () ->
                Check.due("sharedBeasts(0, 3)", Worlds.loose().sharedBeasts(0, 3), 1));
        Check.test("Promise 20: twelve at most, and one fewer with a variant", () -> {
            FableIndex x = new FableIndex();
            for (int fable = 0; fable < 2; fable++) {
                x.addFable(0, 0, 0);
                for (int beast = 1; beast < 11; beast++) {
                    x.addBeast(fable, beast);
                }
            }
            x.addVariant(0, 0, 11, 0);
            Check.due("sharedBeasts(0, 2)", x.sharedBeasts(0, 2), 10);
            x.addBeast(2, 0);
            x.addBeast(1, 11);
            Check.due("sharedBeasts(1, 2)", x.sharedBeasts(1, 2), 12);
        });
        Check.test("Promise 20: a variant with one beast has none together with its parent", () ->
                Check.due("sharedBeasts(0, 1)", Worlds.chain().sharedBeasts(0, 1), 0));
    }

    private static void passes() {
        Check.test("Promise 21: no pass leads from a valley to itself, and asking is no fault", () -> {
            for (int valley = 0; valley < 6; valley++) {
                Check.due("isOpen of one valley", Worlds.empty().isOpen(valley, valley), false);
                Check.due("isOpen of one valley, all open", Worlds.brimful().isOpen(valley, valley), false);
            }
        });
        Check.test("Promise 21: two passes in a row are no pass from end to end", () -> {
            FableIndex x = Worlds.lived();
            Check.due("isOpen(0, 1)", x.isOpen(0, 1), true);
            Check.due("isOpen(2, 1)", x.isOpen(2, 1), true);
            Check.due("isOpen(0, 2)", x.isOpen(0, 2), false);
        });
    }

    private static void bans() {
        Check.test("Promise 22: banned by the moral alone", () -> {
            FableIndex x = Worlds.lived();
            Check.due("isBanned(2, 3)", x.isBanned(2, 3), true);
            Check.due("isBanned(0, 3)", x.isBanned(0, 3), false);
        });
        Check.test("Promise 22: banned by one of its beasts alone", () -> {
            FableIndex x = Worlds.lived();
            Check.due("isBanned(1, 1)", x.isBanned(1, 1), true);
            Check.due("isBanned(3, 1), the variant without it", x.isBanned(3, 1), false);
        });
        Check.test("Promise 22: banned by the moral and a beast, until both are allowed", () -> {
            FableIndex x = Worlds.loose();
            x.turnMoral(0, 9);
            x.turnBeast(0, 4);
            Check.due("isBanned(1, 0)", x.isBanned(1, 0), true);
            x.turnMoral(0, 9);
            Check.due("isBanned(1, 0), by the beast", x.isBanned(1, 0), true);
            x.turnBeast(0, 4);
            Check.due("isBanned(1, 0), by nothing", x.isBanned(1, 0), false);
        });
        Check.test("Promise 22: a beast that comes to a fable later can be banned already", () -> {
            FableIndex x = Worlds.loose();
            x.turnBeast(5, 7);
            Check.due("isBanned(2, 5)", x.isBanned(2, 5), false);
            x.addBeast(2, 7);
            Check.due("isBanned(2, 5)", x.isBanned(2, 5), true);
        });
        Check.test("Promise 23: told though banned, until the next season", () -> {
            FableIndex x = Worlds.lived();
            Check.due("isBanned(2, 4)", x.isBanned(2, 4), true);
            Check.due("isTold(2, 4)", x.isTold(2, 4), true);
            x.passSeasons(1);
            Check.due("isTold(2, 4) behind the season", x.isTold(2, 4), false);
        });
        Check.test("Promise 23: of twenty fables and six valleys each is told, or none", () -> {
            FableIndex all = Worlds.brimful();
            FableIndex none = Worlds.full();
            for (int fable = 0; fable < 20; fable++) {
                for (int valley = 0; valley < 6; valley++) {
                    Check.due("isTold, told everywhere", all.isTold(fable, valley), true);
                    Check.due("isTold, told nowhere", none.isTold(fable, valley), false);
                }
            }
        });
    }

    private static void tellings() {
        Check.test("Promise 24: 0 without fables, and with fables that are not told", () -> {
            for (int valley = 0; valley < 6; valley++) {
                Check.due("toldIn without fables", Worlds.empty().toldIn(valley), 0);
                Check.due("toldIn of untold ones", Worlds.full().toldIn(valley), 0);
            }
        });
        Check.test("Promise 24: twenty at most, though all are banned", () -> {
            for (int valley = 0; valley < 6; valley++) {
                Check.due("toldIn", Worlds.brimful().toldIn(valley), 20);
                Check.due("toldIn, banned", Worlds.forbidden().toldIn(valley), 20);
            }
        });
    }

    private static void allowed() {
        Check.test("Promise 25: 0 without fables, with bans and without", () -> {
            FableIndex x = new FableIndex();
            Check.due("allowedIn(0)", x.allowedIn(0), 0);
            x.turnMoral(0, 0);
            x.turnBeast(0, 0);
            Check.due("allowedIn(0)", x.allowedIn(0), 0);
        });
        Check.test("Promise 25: all twenty without bans, told or not", () -> {
            Check.due("allowedIn(5)", Worlds.full().allowedIn(5), 20);
            Check.due("allowedIn(5)", Worlds.brimful().allowedIn(5), 20);
        });
        Check.test("Promise 25: 0 where all is banned", () ->
                Check.due("allowedIn(5)", Worlds.forbidden().allowedIn(5), 0));
        Check.test("Promise 25: a ban that hits none of them allows all", () -> {
            FableIndex x = Worlds.loose();
            x.turnMoral(0, 1);
            x.turnBeast(0, 1);
            Check.due("allowedIn(0)", x.allowedIn(0), 4);
        });
        Check.test("Promise 25: one who is banned twice is not allowed once", () -> {
            FableIndex x = Worlds.loose();
            x.turnMoral(0, 9);
            x.turnBeast(0, 4);
            Check.due("allowedIn(0)", x.allowedIn(0), 3);
        });
    }

    private static void bansCounted() {
        Check.test("Promise 26: 0 at first, and again when all is allowed again", () -> {
            FableIndex x = new FableIndex();
            x.turnMoral(5, 9);
            x.turnBeast(5, 9);
            Check.due("bansOf(5)", x.bansOf(5), 2);
            x.turnMoral(5, 9);
            x.turnBeast(5, 9);
            Check.due("bansOf(5)", x.bansOf(5), 0);
        });
        Check.test("Promise 26: ten morals and twelve beasts are 22 bans", () -> {
            for (int valley = 0; valley < 6; valley++) {
                Check.due("bansOf", Worlds.forbidden().bansOf(valley), 22);
            }
        });
        Check.test("Promise 26: the morals alone are 10, in one valley alone", () -> {
            FableIndex x = new FableIndex();
            for (int moral = 0; moral < 10; moral++) {
                x.turnMoral(2, moral);
                Check.due("bansOf(2)", x.bansOf(2), moral + 1);
            }
            Check.due("bansOf(1)", x.bansOf(1), 0);
            Check.due("bansOf(3)", x.bansOf(3), 0);
        });
        Check.test("Promise 26: the beasts alone are 12, without any fable", () -> {
            FableIndex x = new FableIndex();
            for (int beast = 0; beast < 12; beast++) {
                x.turnBeast(3, beast);
                Check.due("bansOf(3)", x.bansOf(3), beast + 1);
            }
        });
        Check.test("Promise 26: a season leaves the bans", () -> {
            FableIndex x = Worlds.forbidden();
            x.passSeasons(40);
            Check.due("bansOf(0)", x.bansOf(0), 22);
        });
    }

    private static void questionsChangeNothing() {
        Edge.changesNothing("Promises 11 to 20: asking what a fable is changes nothing", Worlds::lived, x ->
                x.moralOf(3) + x.beastsOf(3) + x.homeOf(3) + x.parentOf(3) + x.variantsOf(1) + x.valleysOf(2)
                        + x.nearestAncestor(0, 3) + x.kinship(3, 0) + x.sharedBeasts(0, 1)
                        + (x.hasBeast(0, 1) ? 1 : 0));
        Edge.changesNothing("Promises 21 to 26: asking what a valley is changes nothing", Worlds::lived, x ->
                x.toldIn(4) + x.allowedIn(4) + x.bansOf(4) + (x.isOpen(0, 1) ? 1 : 0) + (x.isBanned(2, 4) ? 1 : 0)
                        + (x.isTold(2, 4) ? 1 : 0));
    }
}
