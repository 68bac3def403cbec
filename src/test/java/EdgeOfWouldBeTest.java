/** Promises 35 to 39 at their edges, and "at most 512 calls". */
public final class EdgeOfWouldBeTest {
    private EdgeOfWouldBeTest() {
    }

    public static void main(String[] args) {
        seasonsUntil();
        seasonsUntilNever();
        tellingsAfter();
        bestPassNone();
        bestPassOfSeveral();
        bestPassBrings();
        bestPassSeasons();
        nothingIsChanged();
        meanBeasts();
        digest();
        digestWrapsAround();
        manyCalls();
        Check.end();
    }

    private static void seasonsUntil() {
        Check.test("Promise 35: 0 if it is told there now", () -> {
            Check.due("seasonsUntil(0, 0)", Worlds.told().seasonsUntil(0, 0), 0);
            Check.due("seasonsUntil(3, 5)", Worlds.told().seasonsUntil(3, 5), 0);
            Check.due("seasonsUntil(19, 5)", Worlds.brimful().seasonsUntil(19, 5), 0);
        });
        Check.test("Promise 35: 0 if it is told there now, though it is banned there", () ->
                Check.due("seasonsUntil(2, 4)", Worlds.lived().seasonsUntil(2, 4), 0));
        Check.test("Promise 35: 1 if the next season brings it", () -> {
            FableIndex x = Worlds.told();
            x.turnPass(5, 4);
            Check.due("seasonsUntil(0, 4)", x.seasonsUntil(0, 4), 1);
        });
        Check.test("Promise 35: 1 for a variant that the next season brings in its place", () -> {
            FableIndex x = Worlds.told();
            x.addVariant(3, 0, 1, 0);
            x.turnPass(5, 4);
            x.turnBeast(4, 0);
            Check.due("seasonsUntil(4, 4)", x.seasonsUntil(4, 4), 1);
            Check.due("seasonsUntil(3, 4)", x.seasonsUntil(3, 4), -1);
        });
        Check.test("Promise 35: at most 40, not 41", () -> {
            FableIndex x = EdgeOfSeasonsTest.farReaching();
            Check.due("seasonsUntil(8, 0)", x.seasonsUntil(8, 0), 40);
            Check.due("seasonsUntil(8, 1), behind 41", x.seasonsUntil(8, 1), -1);
            Check.due("seasonsUntil(9, 5), behind 45", x.seasonsUntil(9, 5), -1);
            Check.due("seasonsUntil(7, 0), never", x.seasonsUntil(7, 0), -1);
        });
        Check.test("Promise 35: one season later it is one season less", () -> {
            FableIndex x = EdgeOfSeasonsTest.farReaching();
            x.passSeasons(1);
            Check.due("seasonsUntil(8, 0)", x.seasonsUntil(8, 0), 39);
            Check.due("seasonsUntil(8, 1)", x.seasonsUntil(8, 1), 40);
            Check.due("seasonsUntil(8, 2)", x.seasonsUntil(8, 2), -1);
            x.passSeasons(39);
            Check.due("seasonsUntil(8, 0)", x.seasonsUntil(8, 0), 0);
            Check.due("seasonsUntil(8, 1)", x.seasonsUntil(8, 1), 1);
        });
    }

    private static void seasonsUntilNever() {
        Check.test("Promise 35: -1 without tellings", () -> {
            Check.due("seasonsUntil(0, 0)", Worlds.full().seasonsUntil(0, 0), -1);
            Check.due("seasonsUntil(19, 5)", Worlds.full().seasonsUntil(19, 5), -1);
        });
        Check.test("Promise 35: -1 without a way of passes", () -> {
            FableIndex x = Worlds.told();
            x.turnPass(0, 1);
            Check.due("seasonsUntil(0, 1)", x.seasonsUntil(0, 1), 1);
            Check.due("seasonsUntil(0, 2)", x.seasonsUntil(0, 2), -1);
        });
        Check.test("Promise 35: -1 where it is banned, and beyond", () -> {
            FableIndex x = Worlds.loose();
            x.tell(2, 0);
            x.turnPass(0, 1);
            x.turnPass(1, 2);
            x.turnMoral(1, 4);
            Check.due("seasonsUntil(2, 1)", x.seasonsUntil(2, 1), -1);
            Check.due("seasonsUntil(2, 2)", x.seasonsUntil(2, 2), -1);
        });
        Check.test("Promise 35: -1 if it is silenced before it goes", () -> {
            FableIndex x = Worlds.loose();
            x.tell(2, 0);
            x.turnPass(0, 1);
            x.turnMoral(0, 4);
            Check.due("seasonsUntil(2, 0)", x.seasonsUntil(2, 0), 0);
            Check.due("seasonsUntil(2, 1)", x.seasonsUntil(2, 1), -1);
        });
    }

    private static void tellingsAfter() {
        Check.test("Promise 36: 0 without fables, and without tellings", () -> {
            Check.due("tellingsAfter(1)", Worlds.empty().tellingsAfter(1), 0);
            Check.due("tellingsAfter(40)", Worlds.empty().tellingsAfter(40), 0);
            Check.due("tellingsAfter(40)", Worlds.full().tellingsAfter(40), 0);
        });
        Check.test("Promise 36: 120 at most, and 0 where all is banned", () -> {
            Check.due("tellingsAfter(1)", Worlds.brimful().tellingsAfter(1), 120);
            Check.due("tellingsAfter(40)", Worlds.brimful().tellingsAfter(40), 120);
            Check.due("tellingsAfter(1)", Worlds.forbidden().tellingsAfter(1), 0);
        });
        Check.test("Promise 36: for each number of seasons as many as passSeasons brings", () -> {
            FableIndex x = EdgeOfSeasonsTest.farReaching();
            for (int seasons = 1; seasons <= 40; seasons++) {
                int due = EdgeOfSeasonsTest.farReaching().passSeasons(seasons);
                Check.due("tellingsAfter(" + seasons + ")", x.tellingsAfter(seasons), due);
            }
        });
        Check.test("Promise 36: fewer than now, where some would be silenced", () -> {
            FableIndex x = soonSilenced();
            Check.due("tellingsAfter(1)", x.tellingsAfter(1), 1);
            Check.due("tellings(), now", x.tellings(), 3);
        });
        Check.test("Promise 36: the fortieth season counts", () -> {
            FableIndex x = EdgeOfSeasonsTest.farReaching();
            int before = x.tellingsAfter(39);
            Check.due("tellingsAfter(40) above tellingsAfter(39)", x.tellingsAfter(40) > before, true);
        });
    }

    private static void bestPassNone() {
        Check.test("Promise 37: -1 without fables, and without tellings", () -> {
            Check.due("bestPass(1)", Worlds.empty().bestPass(1), -1);
            Check.due("bestPass(20)", Worlds.full().bestPass(20), -1);
        });
        Check.test("Promise 37: -1 if none is closed", () -> {
            FableIndex x = new FableIndex();
            x.addFable(0, 0, 0);
            for (int a = 0; a < 6; a++) {
                for (int b = a + 1; b < 6; b++) {
                    x.turnPass(a, b);
                }
            }
            x.tell(0, 0);
            Check.due("bestPass(1)", x.bestPass(1), -1);
        });
        Check.test("Promise 37: -1 if all are told everywhere", () -> {
            FableIndex x = Worlds.brimful();
            x.turnPass(0, 1);
            x.turnPass(4, 5);
            Check.due("bestPass(1)", x.bestPass(1), -1);
            Check.due("bestPass(20)", x.bestPass(20), -1);
        });
        Check.test("Promise 37: -1 if all is banned, or all but where it is told", () -> {
            Check.due("bestPass(20)", Worlds.forbidden().bestPass(20), -1);
            FableIndex x = Worlds.loose();
            x.tell(2, 3);
            for (int valley = 0; valley < 6; valley++) {
                if (valley != 3) {
                    x.turnMoral(valley, 4);
                }
            }
            Check.due("bestPass(20)", x.bestPass(20), -1);
        });
        Check.test("Promise 37: -1 if a closed pass brings but as many as come without it", () -> {
            FableIndex x = Worlds.loose();
            x.tell(2, 0);
            for (int valley = 1; valley < 6; valley++) {
                x.turnPass(0, valley);
            }
            Check.due("bestPass(1)", x.bestPass(1), -1);
        });
    }

    private static void bestPassOfSeveral() {
        Check.test("Promise 37: the smallest answer is 1, the pass from 0 to 1", () -> {
            FableIndex x = Worlds.loose();
            x.tell(2, 0);
            Check.due("bestPass(1), of five that bring one telling", x.bestPass(1), 1);
            Check.due("bestPass(20), of five that bring one telling", x.bestPass(20), 1);
        });
        Check.test("Promise 37: the greatest answer is 29, the pass from 4 to 5", () -> {
            FableIndex x = onlyBetween(4, 5);
            Check.due("bestPass(1)", x.bestPass(1), 29);
            Check.due("bestPass(20)", x.bestPass(20), 29);
        });
        Check.test("Promise 37: 6 times the smaller valley and the greater one, for each pass and side", () -> {
            for (int from = 0; from < 6; from++) {
                for (int to = 0; to < 6; to++) {
                    if (from != to) {
                        int due = 6 * Math.min(from, to) + Math.max(from, to);
                        Check.due("bestPass(1) from " + from + " to " + to, onlyBetween(from, to).bestPass(1), due);
                    }
                }
            }
        });
        Check.test("Promise 37: of several with the most tellings the smallest number", () -> {
            FableIndex x = Worlds.loose();
            x.tell(2, 5);
            Check.due("bestPass(1)", x.bestPass(1), 5);
            x.turnMoral(0, 4);
            Check.due("bestPass(1), 0 is banned", x.bestPass(1), 6 + 5);
        });
        Check.test("Promise 37: one telling more beats a smaller number", () -> {
            FableIndex x = Worlds.loose();
            x.tell(2, 0);
            x.tell(1, 4);
            x.tell(3, 4);
            Check.due("bestPass(1), three go over 0 to 4", x.bestPass(1), 4);
            x.forget(2, 0);
            x.tell(2, 1);
            Check.due("bestPass(1), three go over 1 to 4", x.bestPass(1), 6 + 4);
        });
    }

    private static void bestPassBrings() {
        Check.test("Promise 37: a pass over which but a variant comes, in its place, counts", () -> {
            FableIndex x = Worlds.loose();
            x.addVariant(2, 5, 6, 0);
            x.tell(2, 3);
            for (int valley : new int[] {0, 1, 2, 4, 5}) {
                x.turnBeast(valley, 5);
                if (valley != 5) {
                    x.turnBeast(valley, 6);
                }
            }
            Check.due("bestPass(1)", x.bestPass(1), 6 * 3 + 5);
            Check.due("bestPass(20)", x.bestPass(20), 6 * 3 + 5);
        });
        Check.test("Promise 37: more than without it are enough, though they are fewer than now", () ->
                Check.due("bestPass(1)", soonSilenced().bestPass(1), 1));
        Check.test("Promise 37: passes that are open are not the best", () -> {
            FableIndex x = Worlds.loose();
            x.tell(2, 0);
            x.turnPass(0, 1);
            Check.due("bestPass(1), 0 to 2", x.bestPass(1), 2);
        });
    }

    /** Of three tellings two are of a fable that is banned there. */
    private static FableIndex soonSilenced() {
        FableIndex x = Worlds.loose();
        x.tell(2, 0);
        x.tell(1, 1);
        x.tell(1, 2);
        x.turnMoral(1, 9);
        x.turnMoral(2, 9);
        return x;
    }

    /** A fable is told in one valley, and not banned there and in another one alone. */
    private static FableIndex onlyBetween(int from, int to) {
        FableIndex x = Worlds.loose();
        x.tell(2, from);
        for (int valley = 0; valley < 6; valley++) {
            if (valley != from && valley != to) {
                x.turnBeast(valley, 5);
            }
        }
        return x;
    }

    private static void bestPassSeasons() {
        Check.test("Promise 37: with one season less or more another pass is the best, up to the twentieth", () -> {
            FableIndex x = backAndForth();
            for (int beast : new int[] {2, 6, 8, 9}) {
                x.turnBeast(2, beast);
            }
            Check.due("bestPass(18)", x.bestPass(18), 6 + 2);
            Check.due("bestPass(19)", x.bestPass(19), 2);
            Check.due("bestPass(20)", x.bestPass(20), 6 + 2);
        });
        Check.test("Promise 37: what is the best behind 19 seasons brings no more behind 20", () -> {
            FableIndex x = backAndForth();
            for (int beast : new int[] {0, 1, 3, 4, 5, 6, 8, 9, 11}) {
                x.turnBeast(2, beast);
            }
            x.turnPass(2, 1);
            Check.due("bestPass(18)", x.bestPass(18), -1);
            Check.due("bestPass(19)", x.bestPass(19), 2);
            Check.due("bestPass(20)", x.bestPass(20), -1);
        });
    }

    /** Between 0 and 1 each season brings the next variant of a chain of twenty; nothing goes to 3, 4 and 5. */
    private static FableIndex backAndForth() {
        FableIndex x = Worlds.chain();
        for (int beast = 0; beast < 12; beast++) {
            x.turnBeast(beast % 2 == 0 ? 1 : 0, beast);
        }
        for (int valley = 3; valley < 6; valley++) {
            x.turnMoral(valley, 6);
        }
        x.tell(0, 0);
        x.turnPass(0, 1);
        return x;
    }

    private static void nothingIsChanged() {
        Edge.changesNothing("Promise 35: nothing is changed by seasonsUntil", Worlds::lived,
                x -> x.seasonsUntil(2, 3));
        Edge.changesNothing("Promise 35: nothing is changed where all would be silenced", Worlds::forbidden,
                x -> x.seasonsUntil(0, 0));
        Edge.changesNothing("Promise 35: nothing is changed by forty seasons that would be",
                EdgeOfSeasonsTest::farReaching, x -> x.seasonsUntil(11, 0));
        Edge.changesNothing("Promise 36: nothing is changed by tellingsAfter", Worlds::lived,
                x -> x.tellingsAfter(40));
        Edge.changesNothing("Promise 36: nothing is changed where all would be silenced", Worlds::forbidden,
                x -> x.tellingsAfter(1));
        Edge.changesNothing("Promise 36: nothing is changed by forty seasons that would be",
                EdgeOfSeasonsTest::farReaching, x -> x.tellingsAfter(40));
        Edge.changesNothing("Promise 37: nothing is changed by bestPass", Worlds::lived, x -> x.bestPass(20));
        Edge.changesNothing("Promise 37: nothing is changed where all would be silenced", Worlds::forbidden,
                x -> x.bestPass(1));
        Edge.changesNothing("Promise 37: no pass is open by it", Worlds::told, x -> x.bestPass(20));
        Edge.changesNothing("Promises 38 and 39: nothing is changed by meanBeasts and digest", Worlds::lived,
                x -> x.meanBeasts() + x.digest());
    }

    private static void meanBeasts() {
        Check.test("Promise 38: 0 without any fable", () ->
                Check.due("meanBeasts()", Worlds.empty().meanBeasts(), 0.0));
        Check.test("Promise 38: 0 without any fable behind a refused one", () -> {
            FableIndex x = new FableIndex();
            Check.thrown("addFable(0, 12, 0)", () -> x.addFable(0, 12, 0), Edge.NO_INDEX);
            Check.due("meanBeasts()", x.meanBeasts(), 0.0);
        });
        Check.test("Promise 38: 1 at least, in a full index too", () -> {
            Check.due("meanBeasts()", Worlds.chain().meanBeasts(), 1.0);
            Check.due("meanBeasts()", Worlds.full().meanBeasts(), 1.0);
        });
        Check.test("Promise 38: 12 at most", () -> {
            FableIndex x = new FableIndex();
            for (int fable = 0; fable < 20; fable++) {
                x.addFable(0, 0, 0);
                for (int beast = 1; beast < 12; beast++) {
                    x.addBeast(fable, beast);
                }
            }
            Check.due("meanBeasts()", x.meanBeasts(), 12.0);
        });
        Check.test("Promise 38: a mean that is not whole is not cut off", () -> {
            Check.due("meanBeasts() of 2, 1, 1 and 1", Worlds.loose().meanBeasts(), 1.25);
            FableIndex x = new FableIndex();
            x.addFable(0, 0, 0);
            x.addBeast(0, 1);
            x.addFable(0, 0, 0);
            x.addFable(0, 0, 0);
            Check.due("meanBeasts() of 2, 1 and 1", x.meanBeasts(), 4.0 / 3.0);
        });
        Check.test("Promise 38: of twenty fables one more beast is a twentieth more", () -> {
            FableIndex x = Worlds.chain();
            x.addBeast(19, 0);
            Check.due("meanBeasts()", x.meanBeasts(), 21.0 / 20.0);
        });
    }

    /** The numbers were computed outside of Java, by whole numbers without an end and a remainder of 2 to the 64. */
    private static void digest() {
        Check.test("Promise 39: of a new index, with two favourites of -1", () ->
                Check.due("digest()", new FableIndex().digest(), 2693463778930794917L));
        Check.test("Promise 39: of one fable with the greatest numbers, told at its home", () -> {
            FableIndex x = new FableIndex();
            x.addFable(9, 11, 5);
            x.tell(0, 5);
            Check.due("digest()", x.digest(), 1167478327251873531L);
        });
        Check.test("Promise 39: what is so counts 1, with a parent, a variant and bans of both kinds", () -> {
            FableIndex x = new FableIndex();
            x.addFable(9, 11, 5);
            x.addVariant(0, 11, 0, 2);
            x.tell(0, 5);
            x.turnMoral(5, 9);
            x.turnBeast(0, 11);
            Check.due("digest()", x.digest(), -3112770304410273840L);
        });
        Check.test("Promise 39: the same calls make the same checksum", () ->
                Check.due("digest()", Worlds.lived().digest(), Worlds.lived().digest()));
        Check.test("Promise 39: seasons that change nothing else change the checksum", () -> {
            FableIndex x = new FableIndex();
            x.passSeasons(40);
            Check.due("digest()", x.digest(), -3221757687520485427L);
        });
        Check.test("Promise 39: all that is turned there and back leaves the checksum", () -> {
            FableIndex x = Worlds.lived();
            for (int n = 0; n < 2; n++) {
                x.turnPass(2, 5);
                x.turnMoral(2, 3);
                x.turnBeast(2, 0);
            }
            Check.due("digest()", x.digest(), Worlds.lived().digest());
        });
    }

    private static void digestWrapsAround() {
        Check.test("Promise 39: it wraps around to below 0, by the pass from 0 to 1", () -> onePass(0, 1,
                -2562355110812582685L));
        Check.test("Promise 39: it wraps around to near the greatest number, by the pass from 2 to 5", () ->
                onePass(2, 5, 7995393853804682595L));
        Check.test("Promise 39: it wraps around to near the smallest number, by the pass from 1 to 3", () ->
                onePass(1, 3, -8878748442113887705L));
        Check.test("Promise 39: the last pass counts in both of its valleys", () -> onePass(4, 5,
                2693490218552955619L));
        Check.test("Promise 39: with all passes open", () -> {
            FableIndex x = new FableIndex();
            for (int a = 0; a < 6; a++) {
                for (int b = a + 1; b < 6; b++) {
                    x.turnPass(a, b);
                }
            }
            Check.due("digest()", x.digest(), -5995823522326205345L);
        });
        Check.test("Promise 39: with all bans, without fables", () -> {
            FableIndex x = new FableIndex();
            for (int valley = 0; valley < 6; valley++) {
                for (int moral = 0; moral < 10; moral++) {
                    x.turnMoral(valley, moral);
                }
                for (int beast = 0; beast < 12; beast++) {
                    x.turnBeast(valley, beast);
                }
            }
            Check.due("digest()", x.digest(), -8241920626911245339L);
        });
    }

    private static void onePass(int a, int b, long due) {
        FableIndex x = new FableIndex();
        x.turnPass(a, b);
        Check.due("digest()", x.digest(), due);
    }

    private static void manyCalls() {
        Check.test("At most 512 calls: the last one still answers, behind 511 times 40 seasons", () -> {
            FableIndex x = new FableIndex();
            for (int n = 0; n < 511; n++) {
                x.passSeasons(40);
            }
            Check.due("season()", x.season(), 511 * 40);
        });
        Check.test("At most 512 calls: the last one still answers, behind 511 turns of a pass", () -> {
            FableIndex x = new FableIndex();
            for (int n = 1; n <= 512; n++) {
                Check.due("turnPass(5, 0)", x.turnPass(5, 0), n % 2 == 1);
            }
        });
        Check.test("At most 512 calls: the last one still answers, behind 511 refused ones", () -> {
            FableIndex x = new FableIndex();
            for (int n = 0; n < 511; n++) {
                Check.thrown("turnPass(0, 0)", () -> x.turnPass(0, 0), Edge.NO_ARGUMENT);
            }
            Check.due("digest()", x.digest(), 2693463778930794917L);
        });
        Check.test("At most 512 calls: the last ones still look for the best pass", () -> {
            FableIndex x = EdgeOfSeasonsTest.farReaching();
            for (int n = 0; n < 450; n++) {
                x.bestPass(20);
            }
            Check.due("digest()", x.digest(), EdgeOfSeasonsTest.farReaching().digest());
        });
        Check.test("At most 512 calls: a fable is told and forgotten to the last", () -> {
            FableIndex x = Worlds.loose();
            for (int n = 0; n < 250; n++) {
                Check.due("tell(2, 5)", x.tell(2, 5), 1);
                Check.due("forget(2, 5)", x.forget(2, 5), 0);
            }
        });
    }
}
