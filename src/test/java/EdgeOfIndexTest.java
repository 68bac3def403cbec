/** Promises 27 to 34 at their edges: counts of an empty index and of a full one, and favourites of several. */
public final class EdgeOfIndexTest {
    private EdgeOfIndexTest() {
    }

    public static void main(String[] args) {
        fables();
        season();
        tellings();
        silenced();
        withMoral();
        withBeast();
        favouriteMoral();
        favouriteBeast();
        Edge.changesNothing("Promises 27 to 34: asking the index changes nothing", Worlds::lived, x ->
                x.fables() + x.season() + x.tellings() + x.silenced() + x.fablesWithMoral(3) + x.fablesWithBeast(0)
                        + x.favouriteMoral() + x.favouriteBeast());
        Check.end();
    }

    private static void fables() {
        Check.test("Promise 27: 0 at first, 20 at most, variants among them", () -> {
            Check.due("fables()", Worlds.empty().fables(), 0);
            Check.due("fables()", Worlds.full().fables(), 20);
            Check.due("fables()", Worlds.chain().fables(), 20);
        });
        Check.test("Promise 27: a fable that is silenced everywhere is still one", () -> {
            FableIndex x = Worlds.forbidden();
            x.passSeasons(1);
            Check.due("fables()", x.fables(), 20);
        });
    }

    private static void season() {
        Check.test("Promise 28: 0 at first, and 0 whatever is done but passSeasons", () -> {
            Check.due("season()", Worlds.empty().season(), 0);
            Check.due("season()", Worlds.forbidden().season(), 0);
        });
        Check.test("Promise 28: seasons are added, those too in which nothing changes", () -> {
            FableIndex x = new FableIndex();
            x.passSeasons(1);
            x.passSeasons(40);
            x.passSeasons(2);
            Check.due("season()", x.season(), 43);
        });
    }

    private static void tellings() {
        Check.test("Promise 29: 0 without fables, and with fables that are not told", () -> {
            Check.due("tellings()", Worlds.empty().tellings(), 0);
            Check.due("tellings()", Worlds.full().tellings(), 0);
        });
        Check.test("Promise 29: 120 at most", () -> {
            Check.due("tellings()", Worlds.brimful().tellings(), 120);
            Check.due("tellings(), all banned", Worlds.forbidden().tellings(), 120);
        });
        Check.test("Promise 29: one fable in two valleys and two in one are four tellings", () ->
                Check.due("tellings()", Worlds.told().tellings(), 4));
    }

    private static void silenced() {
        Check.test("Promise 30: 0 at first, and by bans alone", () -> {
            Check.due("silenced()", Worlds.empty().silenced(), 0);
            Check.due("silenced()", Worlds.forbidden().silenced(), 0);
        });
        Check.test("Promise 30: one fable in two valleys is silenced twice", () -> {
            FableIndex x = Worlds.loose();
            x.tell(2, 0);
            x.tell(2, 5);
            x.turnMoral(0, 4);
            x.turnBeast(5, 5);
            x.passSeasons(1);
            Check.due("silenced()", x.silenced(), 2);
        });
        Check.test("Promise 30: told again and silenced again it counts again", () -> {
            FableIndex x = Worlds.loose();
            for (int n = 1; n <= 3; n++) {
                x.tell(2, 0);
                x.turnMoral(0, 4);
                x.passSeasons(1);
                x.turnMoral(0, 4);
                Check.due("silenced()", x.silenced(), n);
            }
        });
        Check.test("Promise 30: what goes not over a pass, as it is banned there, is not silenced", () -> {
            FableIndex x = Worlds.loose();
            x.tell(2, 0);
            x.turnPass(0, 1);
            x.turnMoral(1, 4);
            x.passSeasons(40);
            Check.due("silenced()", x.silenced(), 0);
        });
        Check.test("Promise 30: what is forgotten is not silenced", () -> {
            FableIndex x = Worlds.told();
            x.forget(0, 0);
            x.passSeasons(1);
            Check.due("silenced()", x.silenced(), 0);
        });
        Check.test("Promise 30: what would be silenced is not", () -> {
            FableIndex x = Worlds.forbidden();
            Check.due("tellingsAfter(40)", x.tellingsAfter(40), 0);
            Check.due("bestPass(20)", x.bestPass(20), -1);
            Check.due("seasonsUntil(0, 0)", x.seasonsUntil(0, 0), 0);
            Check.due("silenced()", x.silenced(), 0);
        });
    }

    private static void withMoral() {
        Check.test("Promise 31: 0 without fables, for each moral", () -> {
            for (int moral = 0; moral < 10; moral++) {
                Check.due("fablesWithMoral(" + moral + ")", Worlds.empty().fablesWithMoral(moral), 0);
            }
        });
        Check.test("Promise 31: twenty at most, and none with the morals beside", () -> {
            FableIndex x = Worlds.brood();
            for (int moral = 0; moral < 10; moral++) {
                Check.due("fablesWithMoral(" + moral + ")", x.fablesWithMoral(moral), moral == 6 ? 20 : 0);
            }
        });
        Check.test("Promise 31: two of each, the first moral and the last one too", () -> {
            for (int moral = 0; moral < 10; moral++) {
                Check.due("fablesWithMoral(" + moral + ")", Worlds.full().fablesWithMoral(moral), 2);
            }
        });
    }

    private static void withBeast() {
        Check.test("Promise 32: 0 without fables, for each beast", () -> {
            for (int beast = 0; beast < 12; beast++) {
                Check.due("fablesWithBeast(" + beast + ")", Worlds.empty().fablesWithBeast(beast), 0);
            }
        });
        Check.test("Promise 32: twenty at most, each with a beast or two", () -> {
            FableIndex x = new FableIndex();
            for (int fable = 0; fable < 20; fable++) {
                x.addFable(0, 11, 0);
                x.addBeast(fable, fable % 2);
            }
            Check.due("fablesWithBeast(11)", x.fablesWithBeast(11), 20);
            Check.due("fablesWithBeast(0)", x.fablesWithBeast(0), 10);
            Check.due("fablesWithBeast(10)", x.fablesWithBeast(10), 0);
        });
        Check.test("Promise 32: the beast that has gone from a variant counts for its parent alone", () -> {
            FableIndex x = Worlds.lived();
            Check.due("fablesWithBeast(1)", x.fablesWithBeast(1), 1);
            Check.due("fablesWithBeast(0)", x.fablesWithBeast(0), 2);
            Check.due("fablesWithBeast(2)", x.fablesWithBeast(2), 2);
        });
    }

    private static void favouriteMoral() {
        Check.test("Promise 33: -1 without fables", () ->
                Check.due("favouriteMoral()", Worlds.empty().favouriteMoral(), -1));
        Check.test("Promise 33: -1 without tellings, in a full index too", () ->
                Check.due("favouriteMoral()", Worlds.full().favouriteMoral(), -1));
        Check.test("Promise 33: -1 when all are silenced", () -> {
            FableIndex x = Worlds.forbidden();
            x.passSeasons(1);
            Check.due("favouriteMoral()", x.favouriteMoral(), -1);
        });
        Check.test("Promise 33: of all morals with as many tellings, 0", () ->
                Check.due("favouriteMoral()", Worlds.brimful().favouriteMoral(), 0));
        Check.test("Promise 33: of several the smallest number, whichever fable came first", () -> {
            FableIndex x = new FableIndex();
            x.addFable(9, 0, 0);
            x.addFable(8, 0, 0);
            x.tell(0, 0);
            x.tell(1, 5);
            Check.due("favouriteMoral()", x.favouriteMoral(), 8);
        });
        Check.test("Promise 33: one telling alone makes the last moral the favourite", () -> {
            FableIndex x = Worlds.full();
            x.tell(9, 5);
            Check.due("favouriteMoral()", x.favouriteMoral(), 9);
        });
        Check.test("Promise 33: tellings of a fable and of its variant are added", () -> {
            FableIndex x = Worlds.full();
            x.tell(0, 0);
            x.tell(9, 0);
            x.tell(19, 0);
            Check.due("favouriteMoral()", x.favouriteMoral(), 9);
            x.tell(0, 1);
            Check.due("favouriteMoral(), two to two", x.favouriteMoral(), 0);
        });
        Check.test("Promise 33: tellings count, not fables", () -> {
            FableIndex x = Worlds.loose();
            x.tell(1, 0);
            x.tell(1, 1);
            x.tell(1, 2);
            x.tell(0, 0);
            x.tell(3, 0);
            Check.due("favouriteMoral()", x.favouriteMoral(), 9);
        });
    }

    private static void favouriteBeast() {
        Check.test("Promise 34: -1 without fables", () ->
                Check.due("favouriteBeast()", Worlds.empty().favouriteBeast(), -1));
        Check.test("Promise 34: -1 without tellings, in a full index too", () ->
                Check.due("favouriteBeast()", Worlds.full().favouriteBeast(), -1));
        Check.test("Promise 34: -1 when all are silenced", () -> {
            FableIndex x = Worlds.forbidden();
            x.passSeasons(1);
            Check.due("favouriteBeast()", x.favouriteBeast(), -1);
        });
        Check.test("Promise 34: of all beasts with two fables, the smallest number", () ->
                Check.due("favouriteBeast()", Worlds.brimful().favouriteBeast(), 2));
        Check.test("Promise 34: of several the smallest number, 0 too", () -> {
            FableIndex x = Worlds.loose();
            x.tell(0, 3);
            Check.due("favouriteBeast()", x.favouriteBeast(), 0);
        });
        Check.test("Promise 34: one telling alone makes the last beast the favourite", () -> {
            FableIndex x = new FableIndex();
            x.addFable(0, 11, 0);
            x.tell(0, 5);
            Check.due("favouriteBeast()", x.favouriteBeast(), 11);
        });
        Check.test("Promise 34: a telling counts for each beast of the fable, and those of several are added", () -> {
            FableIndex x = Worlds.loose();
            x.addFable(1, 11, 0);
            x.tell(0, 0);
            x.tell(4, 0);
            Check.due("favouriteBeast()", x.favouriteBeast(), 11);
            x.tell(3, 0);
            Check.due("favouriteBeast(), two to two", x.favouriteBeast(), 0);
        });
        Check.test("Promise 34: tellings count, not fables", () -> {
            FableIndex x = Worlds.loose();
            x.tell(1, 0);
            x.tell(1, 1);
            x.tell(1, 2);
            x.tell(0, 0);
            x.tell(3, 0);
            Check.due("favouriteBeast()", x.favouriteBeast(), 4);
        });
    }
}
