/** A season's three steps in "Terms", and promise 10, at their edges. */
public final class EdgeOfSeasonsTest {
    private EdgeOfSeasonsTest() {
    }

    public static void main(String[] args) {
        firstStep();
        silencedGoesNowhere();
        overThePasses();
        notBeforeTheNextSeason();
        inItsPlace();
        laterInItsPlace();
        noneInItsPlace();
        placeIsTakenOnce();
        thirdStep();
        passSeasons();
        allOrNothing();
        Check.end();
    }

    private static void firstStep() {
        Check.test("Promise 10, step 1: by its moral a fable is silenced, there alone", () -> {
            FableIndex x = Worlds.told();
            x.turnMoral(0, 0);
            Check.due("passSeasons(1)", x.passSeasons(1), 2);
            Check.due("toldIn(0)", x.toldIn(0), 0);
            Check.due("toldIn(5)", x.toldIn(5), 2);
            Check.due("silenced()", x.silenced(), 2);
        });
        Check.test("Promise 10, step 1: one banned beast of two silences, another fable stays", () -> {
            FableIndex x = Worlds.told();
            x.turnBeast(5, 11);
            Check.due("passSeasons(1)", x.passSeasons(1), 3);
            Check.due("isTold(0, 5)", x.isTold(0, 5), false);
            Check.due("isTold(3, 5)", x.isTold(3, 5), true);
            Check.due("silenced()", x.silenced(), 1);
        });
        Check.test("Promise 10, step 1: by a moral and two beasts at once a fable is silenced once", () -> {
            FableIndex x = Worlds.told();
            x.forget(3, 0);
            x.turnMoral(0, 0);
            x.turnBeast(0, 0);
            x.turnBeast(0, 11);
            Check.due("passSeasons(1)", x.passSeasons(1), 2);
            Check.due("silenced()", x.silenced(), 1);
        });
        Check.test("Promise 10, step 1: where nothing is told, none is silenced", () -> {
            FableIndex x = Worlds.told();
            x.turnMoral(1, 0);
            x.turnBeast(2, 0);
            Check.due("passSeasons(40)", x.passSeasons(40), 4);
            Check.due("silenced()", x.silenced(), 0);
        });
        Check.test("Promise 10, step 1: the first and the last fable are silenced, at either end", () -> {
            FableIndex x = Worlds.full();
            x.tell(0, 5);
            x.tell(19, 0);
            x.turnMoral(5, 0);
            x.turnMoral(0, 9);
            Check.due("passSeasons(1)", x.passSeasons(1), 0);
            Check.due("silenced()", x.silenced(), 2);
        });
    }

    private static void silencedGoesNowhere() {
        Check.test("Promise 10, step 2: what step 1 silenced goes over no pass", () -> {
            FableIndex x = Worlds.loose();
            x.tell(2, 0);
            x.turnPass(0, 1);
            x.turnMoral(0, 4);
            Check.due("passSeasons(1)", x.passSeasons(1), 0);
            Check.due("isTold(2, 1)", x.isTold(2, 1), false);
        });
        Check.test("Promise 10, step 2: no variant comes in the place of what was silenced", () -> {
            FableIndex x = Worlds.loose();
            x.addVariant(2, 5, 6, 0);
            x.tell(2, 0);
            x.turnPass(0, 1);
            x.turnBeast(0, 5);
            x.turnBeast(1, 5);
            Check.due("passSeasons(2)", x.passSeasons(2), 0);
            Check.due("silenced()", x.silenced(), 1);
        });
        Check.test("Promise 10, step 2: what is silenced here comes not back from there, where it is told", () -> {
            FableIndex x = Worlds.loose();
            x.tell(2, 0);
            x.tell(2, 1);
            x.turnPass(0, 1);
            x.turnMoral(1, 4);
            Check.due("passSeasons(1)", x.passSeasons(1), 1);
            Check.due("silenced()", x.silenced(), 1);
            Check.due("passSeasons(40)", x.passSeasons(40), 1);
            Check.due("silenced(), no more", x.silenced(), 1);
        });
        Check.test("Promise 10, step 2: its variant comes from there, where it is told", () -> {
            FableIndex x = Worlds.loose();
            x.addVariant(2, 5, 6, 0);
            x.tell(2, 0);
            x.tell(2, 1);
            x.turnPass(0, 1);
            x.turnBeast(1, 5);
            Check.due("passSeasons(1)", x.passSeasons(1), 2);
            Check.due("isTold(2, 1)", x.isTold(2, 1), false);
            Check.due("isTold(4, 1)", x.isTold(4, 1), true);
        });
    }

    private static void overThePasses() {
        Check.test("Promise 10, step 2: without open passes all stay where they are", () -> {
            FableIndex x = Worlds.told();
            Check.due("passSeasons(40)", x.passSeasons(40), 4);
            Check.due("toldIn(1)", x.toldIn(1), 0);
        });
        Check.test("Promise 10, step 2: over each pass, from either side", () -> {
            for (int a = 0; a < 6; a++) {
                for (int b = 0; b < 6; b++) {
                    if (a != b) {
                        overOnePass(a, b);
                    }
                }
            }
        });
        Check.test("Promise 10, step 2: over all open passes in one season", () -> {
            for (int from = 0; from < 6; from++) {
                FableIndex x = Worlds.loose();
                x.tell(1, from);
                for (int to = 0; to < 6; to++) {
                    if (to != from) {
                        x.turnPass(from, to);
                    }
                }
                Check.due("passSeasons(1) from " + from, x.passSeasons(1), 6);
            }
        });
        Check.test("Promise 10, step 2: not over a pass that was closed again", () -> {
            FableIndex x = Worlds.loose();
            x.tell(1, 0);
            x.turnPass(0, 1);
            x.turnPass(1, 0);
            Check.due("passSeasons(40)", x.passSeasons(40), 1);
        });
        Check.test("Promise 10, step 2: an allowed fable goes itself, not its variant", () -> {
            FableIndex x = Worlds.loose();
            x.addVariant(2, 5, 6, 0);
            x.tell(2, 0);
            x.turnPass(0, 1);
            x.turnBeast(1, 6);
            Check.due("passSeasons(1)", x.passSeasons(1), 2);
            Check.due("isTold(2, 1)", x.isTold(2, 1), true);
        });
        Check.test("Promise 10, step 2: it comes where it is told already, and nothing is more", () -> {
            FableIndex x = Worlds.told();
            x.turnPass(0, 5);
            Check.due("passSeasons(1)", x.passSeasons(1), 4);
        });
    }

    private static void overOnePass(int a, int b) {
        FableIndex x = Worlds.loose();
        x.tell(1, a);
        x.turnPass(a, b);
        Check.due("passSeasons(1) from " + a, x.passSeasons(1), 2);
        Check.due("isTold(1, " + a + ")", x.isTold(1, a), true);
        Check.due("isTold(1, " + b + ")", x.isTold(1, b), true);
        Check.due("passSeasons(40)", x.passSeasons(40), 2);
    }

    private static void notBeforeTheNextSeason() {
        Check.test("Promise 10, step 2: what is told anew goes on in the next season, to greater numbers", () -> {
            FableIndex x = row();
            x.tell(0, 0);
            for (int seasons = 1; seasons <= 5; seasons++) {
                Check.due("passSeasons(1)", x.passSeasons(1), 1 + seasons);
                Check.due("isTold(0, " + seasons + ")", x.isTold(0, seasons), true);
            }
        });
        Check.test("Promise 10, step 2: what is told anew goes on in the next season, to smaller numbers", () -> {
            FableIndex x = row();
            x.tell(0, 5);
            for (int seasons = 1; seasons <= 5; seasons++) {
                Check.due("passSeasons(1)", x.passSeasons(1), 1 + seasons);
                Check.due("isTold(0, " + (5 - seasons) + ")", x.isTold(0, 5 - seasons), true);
            }
        });
        Check.test("Promise 10, step 2: a variant that came goes on in the next season", () -> {
            FableIndex x = row();
            x.addVariant(0, 0, 1, 0);
            x.tell(0, 0);
            x.turnBeast(1, 0);
            x.turnBeast(2, 0);
            Check.due("passSeasons(1)", x.passSeasons(1), 2);
            Check.due("isTold(1, 2)", x.isTold(1, 2), false);
            Check.due("passSeasons(1)", x.passSeasons(1), 4);
            Check.due("isTold(1, 2)", x.isTold(1, 2), true);
            Check.due("isTold(1, 0)", x.isTold(1, 0), true);
        });
    }

    /** The valleys in a row, and one fable. */
    private static FableIndex row() {
        FableIndex x = new FableIndex();
        x.addFable(0, 0, 0);
        for (int a = 0; a < 5; a++) {
            x.turnPass(a, a + 1);
        }
        return x;
    }

    /**
     * Fable 0 with the beasts 0 and 9 is told in 0, from where a pass leads to 1; its variants 1, 2 and 4 have 3, 4
     * and 5 in the place of 0, and 3 is a variant of 1 with 6.
     */
    private static FableIndex family() {
        FableIndex x = new FableIndex();
        x.addFable(2, 0, 0);
        x.addBeast(0, 9);
        x.addVariant(0, 0, 3, 0);
        x.addVariant(0, 0, 4, 0);
        x.addVariant(1, 3, 6, 0);
        x.addVariant(0, 0, 5, 0);
        x.tell(0, 0);
        x.turnPass(0, 1);
        return x;
    }

    private static void inItsPlace() {
        Check.test("Promise 10, step 2: of several variants the smallest number comes in its place", () -> {
            FableIndex x = family();
            x.turnBeast(1, 0);
            oneCame(x, 1);
        });
        Check.test("Promise 10, step 2: if the first variant is banned there, the second one comes", () -> {
            FableIndex x = family();
            x.turnBeast(1, 0);
            x.turnBeast(1, 3);
            oneCame(x, 2);
        });
        Check.test("Promise 10, step 2: if but the last variant is not banned there, it comes", () -> {
            FableIndex x = family();
            x.turnBeast(1, 0);
            x.turnBeast(1, 3);
            x.turnBeast(1, 4);
            oneCame(x, 4);
        });
        Check.test("Promise 10, step 2: the twentieth fable can come in the place of the nineteenth", () -> {
            FableIndex x = Worlds.chain();
            x.tell(18, 5);
            x.turnPass(5, 0);
            x.turnBeast(0, 6);
            Check.due("passSeasons(1)", x.passSeasons(1), 2);
            Check.due("isTold(19, 0)", x.isTold(19, 0), true);
        });
        Check.test("Promise 10, step 2: of nineteen variants but the last comes, where the others are banned", () -> {
            FableIndex x = new FableIndex();
            x.addFable(6, 0, 0);
            for (int n = 1; n < 19; n++) {
                x.addVariant(0, 0, 1 + n % 10, 0);
            }
            x.addVariant(0, 0, 11, 0);
            x.tell(0, 5);
            x.turnPass(5, 4);
            for (int beast = 0; beast < 11; beast++) {
                x.turnBeast(4, beast);
            }
            Check.due("passSeasons(1)", x.passSeasons(1), 2);
            Check.due("isTold(19, 4)", x.isTold(19, 4), true);
        });
    }

    private static void laterInItsPlace() {
        Check.test("Promise 10, step 2: a variant written down later comes later, and stays where the ban ends", () -> {
            FableIndex x = Worlds.loose();
            x.tell(2, 0);
            x.turnPass(0, 1);
            x.turnBeast(1, 5);
            Check.due("passSeasons(1)", x.passSeasons(1), 1);
            x.addVariant(2, 5, 6, 0);
            Check.due("passSeasons(1) with a variant", x.passSeasons(1), 2);
            Check.due("isTold(4, 1)", x.isTold(4, 1), true);
            x.turnBeast(1, 5);
            Check.due("passSeasons(1) without the ban", x.passSeasons(1), 4);
            Check.due("isTold(2, 1)", x.isTold(2, 1), true);
            Check.due("isTold(4, 1)", x.isTold(4, 1), true);
        });
    }

    /** Behind one season only this variant is told in 1, and fable 0 is told in 0 alone. */
    private static void oneCame(FableIndex x, int variant) {
        Check.due("passSeasons(1)", x.passSeasons(1), 2);
        for (int fable = 0; fable < x.fables(); fable++) {
            Check.due("isTold(" + fable + ", 1)", x.isTold(fable, 1), fable == variant);
            Check.due("isTold(" + fable + ", 0)", x.isTold(fable, 0), fable == 0);
        }
        Check.due("silenced()", x.silenced(), 0);
    }

    private static void noneInItsPlace() {
        Check.test("Promise 10, step 2: where its moral is banned, no variant comes", () -> {
            FableIndex x = family();
            x.turnMoral(1, 2);
            noneCame(x);
        });
        Check.test("Promise 10, step 2: where its moral and a beast are banned, no variant comes", () -> {
            FableIndex x = family();
            x.turnMoral(1, 2);
            x.turnBeast(1, 0);
            noneCame(x);
        });
        Check.test("Promise 10, step 2: where each variant is banned too, none comes", () -> {
            FableIndex x = family();
            x.turnBeast(1, 9);
            noneCame(x);
        });
        Check.test("Promise 10, step 2: a variant of a variant comes not in the place of the first", () -> {
            FableIndex x = family();
            for (int beast : new int[] {0, 3, 4, 5}) {
                x.turnBeast(1, beast);
            }
            Check.due("isBanned(3, 1)", x.isBanned(3, 1), false);
            noneCame(x);
        });
        Check.test("Promise 10, step 2: without variants none comes", () -> {
            FableIndex x = Worlds.loose();
            x.tell(2, 0);
            x.turnPass(0, 1);
            x.turnBeast(1, 5);
            Check.due("passSeasons(40)", x.passSeasons(40), 1);
        });
        Check.test("Promise 10, step 2: the parent and its other variants come not in a variant's place", () -> {
            FableIndex x = family();
            x.forget(0, 0);
            x.tell(2, 0);
            x.turnBeast(1, 4);
            Check.due("passSeasons(40)", x.passSeasons(40), 1);
            Check.due("toldIn(1)", x.toldIn(1), 0);
        });
        Check.test("Promise 10, step 2: a variant comes not over a closed pass", () -> {
            FableIndex x = family();
            x.turnPass(0, 1);
            x.turnBeast(1, 0);
            noneCame(x);
        });
    }

    private static void noneCame(FableIndex x) {
        Check.due("passSeasons(1)", x.passSeasons(1), 1);
        Check.due("toldIn(1)", x.toldIn(1), 0);
        Check.due("isTold(0, 0)", x.isTold(0, 0), true);
        Check.due("passSeasons(40)", x.passSeasons(40), 1);
        Check.due("silenced()", x.silenced(), 0);
    }

    private static void placeIsTakenOnce() {
        Check.test("Promise 10, step 2: a variant that is told there already leaves no place for the next", () -> {
            FableIndex x = family();
            x.tell(1, 1);
            x.turnBeast(1, 0);
            Check.due("passSeasons(1)", x.passSeasons(1), 3);
            Check.due("isTold(1, 0), which goes the other way", x.isTold(1, 0), true);
            Check.due("isTold(2, 1)", x.isTold(2, 1), false);
        });
        Check.test("Promise 10, step 2: from two valleys at once comes one variant", () -> {
            FableIndex x = family();
            x.tell(0, 2);
            x.turnPass(1, 2);
            x.turnBeast(1, 0);
            Check.due("passSeasons(1)", x.passSeasons(1), 3);
            Check.due("toldIn(1)", x.toldIn(1), 1);
        });
        Check.test("Promise 10, step 2: a fable and its parent bring what is due for each", () -> {
            FableIndex x = family();
            x.tell(1, 0);
            x.turnBeast(1, 0);
            x.turnBeast(1, 3);
            Check.due("passSeasons(1)", x.passSeasons(1), 4);
            Check.due("isTold(2, 1), in the place of 0", x.isTold(2, 1), true);
            Check.due("isTold(3, 1), in the place of 1", x.isTold(3, 1), true);
        });
    }

    private static void thirdStep() {
        Check.test("Promise 10, step 3: the season is 0 at first, and 1 greater behind each", () -> {
            FableIndex x = Worlds.loose();
            Check.due("season()", x.season(), 0);
            for (int seasons = 1; seasons <= 50; seasons++) {
                x.passSeasons(1);
                Check.due("season()", x.season(), seasons);
            }
        });
        Check.test("Promise 10, step 3: seasons go by without fables too", () -> {
            FableIndex x = new FableIndex();
            Check.due("passSeasons(40)", x.passSeasons(40), 0);
            Check.due("season()", x.season(), 40);
        });
        Check.test("Promise 10, step 3: refused seasons do not go by", () -> {
            FableIndex x = Worlds.told();
            Check.thrown("passSeasons(41)", () -> x.passSeasons(41), Edge.NO_ARGUMENT);
            Check.thrown("passSeasons(0)", () -> x.passSeasons(0), Edge.NO_ARGUMENT);
            Check.due("season()", x.season(), 0);
            Check.due("passSeasons(1)", x.passSeasons(1), 4);
            Check.due("season()", x.season(), 1);
        });
    }

    private static void passSeasons() {
        Check.test("Promise 10: 40 seasons at once are 40 seasons one by one", () -> {
            FableIndex atOnce = farReaching();
            FableIndex oneByOne = farReaching();
            int then = 0;
            for (int n = 0; n < 40; n++) {
                then = oneByOne.passSeasons(1);
            }
            Check.due("passSeasons(40)", atOnce.passSeasons(40), then);
            Check.due("digest()", atOnce.digest(), oneByOne.digest());
        });
        Check.test("Promise 10: what comes with the fortieth season is not there behind the thirty-ninth", () -> {
            FableIndex x = farReaching();
            x.passSeasons(39);
            Check.due("isTold(8, 0)", x.isTold(8, 0), false);
            x.passSeasons(1);
            Check.due("isTold(8, 0)", x.isTold(8, 0), true);
        });
        Check.test("Promise 10: what comes with the fortieth season comes with passSeasons(40)", () -> {
            FableIndex x = farReaching();
            x.passSeasons(40);
            Check.due("isTold(8, 0)", x.isTold(8, 0), true);
            Check.due("isTold(8, 1)", x.isTold(8, 1), false);
        });
        Check.test("Promise 10: seasons go on where in each valley something changes, season by season", () -> {
            FableIndex x = ring();
            Check.due("passSeasons(3)", x.passSeasons(3), 36);
            FableIndex oneByOne = ring();
            Check.due("passSeasons(1)", oneByOne.passSeasons(1), 18);
            Check.due("passSeasons(1)", oneByOne.passSeasons(1), 30);
            Check.due("passSeasons(1)", oneByOne.passSeasons(1), 36);
        });
        Check.test("Promise 10: a season changes something behind one in which nothing did", () -> {
            FableIndex x = Worlds.loose();
            x.tell(2, 0);
            Check.due("passSeasons(2)", x.passSeasons(2), 1);
            x.turnPass(0, 1);
            Check.due("passSeasons(2)", x.passSeasons(2), 2);
            x.turnMoral(0, 4);
            Check.due("passSeasons(2)", x.passSeasons(2), 1);
            x.turnMoral(0, 4);
            Check.due("passSeasons(2)", x.passSeasons(2), 2);
        });
    }

    /** The valleys in a ring, and in each of them a fable of its own. */
    private static FableIndex ring() {
        FableIndex x = new FableIndex();
        for (int valley = 0; valley < 6; valley++) {
            x.turnPass(valley, (valley + 1) % 6);
            x.addFable(valley, valley, valley);
            x.tell(valley, valley);
        }
        return x;
    }

    /** Each variant of the one before is told behind five seasons more, at the other end of a row of valleys. */
    static FableIndex farReaching() {
        FableIndex x = row();
        for (int n = 1; n < 12; n++) {
            x.addVariant(n - 1, n - 1, n, 0);
        }
        for (int beast = 0; beast < 12; beast++) {
            x.turnBeast(beast % 2 == 0 ? 5 : 0, beast);
        }
        x.tell(0, 0);
        return x;
    }

    private static void allOrNothing() {
        Check.test("Promise 10: where all are told in all valleys, no season adds any", () -> {
            FableIndex x = Worlds.brimful();
            Check.due("passSeasons(40)", x.passSeasons(40), 120);
            Check.due("silenced()", x.silenced(), 0);
        });
        Check.test("Promise 10: where all is banned, one season silences 120, the next ones none", () -> {
            FableIndex x = Worlds.forbidden();
            Check.due("passSeasons(1)", x.passSeasons(1), 0);
            Check.due("silenced()", x.silenced(), 120);
            Check.due("passSeasons(40)", x.passSeasons(40), 0);
            Check.due("silenced()", x.silenced(), 120);
        });
        Check.test("Promise 10: from one telling over all passes all six valleys, in one season", () -> {
            FableIndex x = Worlds.brimful();
            for (int valley = 0; valley < 5; valley++) {
                for (int fable = 0; fable < 20; fable++) {
                    x.forget(fable, valley);
                }
            }
            Check.due("tellings()", x.tellings(), 20);
            Check.due("passSeasons(1)", x.passSeasons(1), 120);
        });
        Check.test("Promise 10: without tellings none come", () ->
                Check.due("passSeasons(40)", Worlds.full().passSeasons(40), 0));
    }
}
