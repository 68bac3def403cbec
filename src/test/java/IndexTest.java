/** Promises 27 to 39: the index as a whole, and what would be. */
public final class IndexTest {
    private IndexTest() {
    }

    public static void main(String[] args) {
        promises27To30();
        promises31And32();
        promise33();
        promise34();
        promise35();
        promise36();
        promise37();
        promise38();
        promise39();
        Check.end();
    }

    private static void promises27To30() {
        FableIndex x = new FableIndex();
        x.addFable(0, 0, 0);
        x.addVariant(0, 0, 1, 0);
        Check.due("fables()", x.fables(), 2);
        x.tell(0, 0);
        x.tell(0, 5);
        x.tell(1, 5);
        Check.due("tellings()", x.tellings(), 3);
        x.turnMoral(5, 0);
        Check.due("tellings() until the season", x.tellings(), 3);
        x.passSeasons(2);
        Check.due("season()", x.season(), 2);
        Check.due("tellings()", x.tellings(), 1);
        Check.due("silenced()", x.silenced(), 2);
        x.passSeasons(40);
        Check.due("season()", x.season(), 42);
        Check.due("silenced()", x.silenced(), 2);
    }

    private static void promises31And32() {
        FableIndex x = new FableIndex();
        x.addFable(9, 11, 0);
        x.addFable(9, 11, 0);
        x.addBeast(1, 0);
        x.addVariant(0, 11, 3, 0);
        x.addFable(0, 3, 0);
        Check.due("fablesWithMoral(9)", x.fablesWithMoral(9), 3);
        Check.due("fablesWithMoral(0)", x.fablesWithMoral(0), 1);
        Check.due("fablesWithMoral(5)", x.fablesWithMoral(5), 0);
        Check.due("fablesWithBeast(11)", x.fablesWithBeast(11), 2);
        Check.due("fablesWithBeast(0)", x.fablesWithBeast(0), 1);
        Check.due("fablesWithBeast(3)", x.fablesWithBeast(3), 2);
        Check.due("fablesWithBeast(1)", x.fablesWithBeast(1), 0);
        Check.noSuch(x, "fablesWithMoral(-1)", () -> x.fablesWithMoral(-1));
        Check.noSuch(x, "fablesWithMoral(10)", () -> x.fablesWithMoral(10));
        Check.noSuch(x, "fablesWithBeast(-1)", () -> x.fablesWithBeast(-1));
        Check.noSuch(x, "fablesWithBeast(12)", () -> x.fablesWithBeast(12));
    }

    private static void promise33() {
        FableIndex x = new FableIndex();
        Check.due("favouriteMoral() without fables", x.favouriteMoral(), -1);
        x.addFable(9, 0, 0);
        x.addFable(4, 0, 0);
        x.addFable(4, 0, 0);
        Check.due("favouriteMoral() without tellings", x.favouriteMoral(), -1);
        x.tell(0, 0);
        Check.due("favouriteMoral(), the last one", x.favouriteMoral(), 9);
        x.tell(0, 1);
        x.tell(1, 0);
        Check.due("favouriteMoral(), two tellings to one", x.favouriteMoral(), 9);
        x.tell(2, 0);
        Check.due("favouriteMoral(), of two with the most", x.favouriteMoral(), 4);
        x.tell(0, 2);
        Check.due("favouriteMoral(), three tellings to two", x.favouriteMoral(), 9);
        x.forget(0, 0);
        x.forget(0, 1);
        x.forget(0, 2);
        x.forget(1, 0);
        x.forget(2, 0);
        Check.due("favouriteMoral(), all forgotten", x.favouriteMoral(), -1);
        x.addFable(0, 0, 0);
        x.tell(3, 0);
        Check.due("favouriteMoral(), the first one", x.favouriteMoral(), 0);
    }

    private static void promise34() {
        FableIndex x = new FableIndex();
        Check.due("favouriteBeast() without fables", x.favouriteBeast(), -1);
        x.addFable(0, 11, 0);
        x.addFable(0, 8, 0);
        x.addFable(0, 8, 0);
        x.addBeast(2, 2);
        Check.due("favouriteBeast() without tellings", x.favouriteBeast(), -1);
        x.tell(0, 0);
        Check.due("favouriteBeast(), the last one", x.favouriteBeast(), 11);
        x.tell(0, 1);
        x.tell(1, 0);
        Check.due("favouriteBeast(), two tellings to one", x.favouriteBeast(), 11);
        x.tell(2, 0);
        Check.due("favouriteBeast(), of two with the most", x.favouriteBeast(), 8);
        x.forget(0, 0);
        x.forget(0, 1);
        x.forget(1, 0);
        Check.due("favouriteBeast(), each beast of one fable", x.favouriteBeast(), 2);
        x.addBeast(2, 0);
        Check.due("favouriteBeast(), the first one", x.favouriteBeast(), 0);
    }

    private static void promise35() {
        FableIndex x = new FableIndex();
        x.addFable(0, 0, 0);
        x.addVariant(0, 0, 1, 0);
        for (int a = 0; a < 5; a++) {
            x.turnPass(a, a + 1);
        }
        Check.due("seasonsUntil(0, 0) untold", x.seasonsUntil(0, 0), -1);
        x.tell(0, 0);
        x.turnBeast(4, 0);
        long before = x.digest();
        for (int valley = 0; valley < 4; valley++) {
            Check.due("seasonsUntil(0, " + valley + ")", x.seasonsUntil(0, valley), valley);
        }
        Check.due("seasonsUntil(0, 4), banned", x.seasonsUntil(0, 4), -1);
        Check.due("seasonsUntil(0, 5), behind", x.seasonsUntil(0, 5), -1);
        Check.due("seasonsUntil(1, 4), in its place", x.seasonsUntil(1, 4), 4);
        Check.due("seasonsUntil(1, 5)", x.seasonsUntil(1, 5), 5);
        Check.due("seasonsUntil(1, 3), going back", x.seasonsUntil(1, 3), 5);
        Check.due("seasonsUntil(1, 0), going back", x.seasonsUntil(1, 0), 8);
        Check.due("digest() behind seasonsUntil", x.digest(), before);
        x.turnMoral(0, 0);
        Check.due("seasonsUntil(0, 0), told now though banned", x.seasonsUntil(0, 0), 0);
        Check.due("seasonsUntil(0, 1), silenced before", x.seasonsUntil(0, 1), -1);
        Check.noSuch(x, "seasonsUntil(2, 0)", () -> x.seasonsUntil(2, 0));
        Check.noSuch(x, "seasonsUntil(-1, 0)", () -> x.seasonsUntil(-1, 0));
        Check.noSuch(x, "seasonsUntil(0, 6)", () -> x.seasonsUntil(0, 6));
        Check.noSuch(x, "seasonsUntil(0, -1)", () -> x.seasonsUntil(0, -1));
        longestWay();
    }

    /** Variants one below the other, of which each is first told at the far end of the row: many seasons. */
    private static void longestWay() {
        FableIndex x = new FableIndex();
        x.addFable(0, 0, 0);
        for (int n = 1; n < 12; n++) {
            x.addVariant(n - 1, n - 1, n, 0);
        }
        for (int a = 0; a < 5; a++) {
            x.turnPass(a, a + 1);
        }
        // Beasts with even numbers are banned at the one end, the others at the other one.
        for (int beast = 0; beast < 12; beast++) {
            x.turnBeast(beast % 2 == 0 ? 5 : 0, beast);
        }
        x.tell(0, 0);
        for (int n = 1; n < 9; n++) {
            int end = n % 2 == 0 ? 0 : 5;
            int seasons = 5 * n;
            Check.due("seasonsUntil(" + n + ", " + end + ")", x.seasonsUntil(n, end), seasons <= 40 ? seasons : -1);
        }
        Check.due("seasonsUntil(9, 5), behind 45", x.seasonsUntil(9, 5), -1);
        Check.due("seasonsUntil(8, 1), behind 41", x.seasonsUntil(8, 1), -1);
        x.passSeasons(1);
        Check.due("seasonsUntil(8, 1), behind 40", x.seasonsUntil(8, 1), 40);
        Check.due("seasonsUntil(8, 2), behind 41", x.seasonsUntil(8, 2), -1);
    }

    private static void promise36() {
        FableIndex x = new FableIndex();
        Check.due("tellingsAfter(1) of nothing", x.tellingsAfter(1), 0);
        x.addFable(0, 0, 0);
        x.addFable(1, 1, 0);
        for (int a = 0; a < 5; a++) {
            x.turnPass(a, a + 1);
        }
        x.tell(0, 0);
        x.tell(1, 3);
        x.turnMoral(3, 1);
        long before = x.digest();
        Check.due("tellingsAfter(1)", x.tellingsAfter(1), 2);
        Check.due("tellingsAfter(2)", x.tellingsAfter(2), 3);
        Check.due("tellingsAfter(40)", x.tellingsAfter(40), 6);
        Check.due("digest() behind tellingsAfter", x.digest(), before);
        Check.due("silenced() behind tellingsAfter", x.silenced(), 0);
        Check.due("season() behind tellingsAfter", x.season(), 0);
        Check.noArgument(x, "tellingsAfter(0)", () -> x.tellingsAfter(0));
        Check.noArgument(x, "tellingsAfter(-1)", () -> x.tellingsAfter(-1));
        Check.noArgument(x, "tellingsAfter(41)", () -> x.tellingsAfter(41));
        Check.noArgument(x, "tellingsAfter(MIN)", () -> x.tellingsAfter(Integer.MIN_VALUE));
    }

    private static void promise37() {
        FableIndex x = new FableIndex();
        Check.due("bestPass(1) of nothing", x.bestPass(1), -1);
        Check.noArgument(x, "bestPass(0)", () -> x.bestPass(0));
        Check.noArgument(x, "bestPass(-1)", () -> x.bestPass(-1));
        Check.noArgument(x, "bestPass(21)", () -> x.bestPass(21));
        Check.noArgument(x, "bestPass(40)", () -> x.bestPass(40));
        x.addFable(0, 0, 0);
        x.addFable(1, 1, 0);
        x.tell(0, 2);
        long before = x.digest();
        Check.due("bestPass(20), 0 to 2 of many", x.bestPass(20), 2);
        Check.due("digest() behind bestPass", x.digest(), before);
        x.turnPass(4, 5);
        Check.due("bestPass(1), one valley more by any", x.bestPass(1), 2);
        Check.due("bestPass(2), 2 to 4 reaches two more", x.bestPass(2), 6 * 2 + 4);
        x.tell(1, 5);
        Check.due("bestPass(1), of 2 to 5 go both", x.bestPass(1), 6 * 2 + 5);
        for (int valley = 0; valley < 6; valley++) {
            x.turnMoral(valley, 1);
        }
        Check.due("bestPass(2), the other one silenced", x.bestPass(2), 6 * 2 + 4);
        for (int valley = 0; valley < 6; valley++) {
            x.turnBeast(valley, 0);
        }
        Check.due("bestPass(20), none told", x.bestPass(20), -1);
        Check.due("tellings() behind bestPass", x.tellings(), 2);
        openOnes();
    }

    /** Passes that are open are not looked at, and a closed one counts only if it adds tellings. */
    private static void openOnes() {
        FableIndex x = new FableIndex();
        x.addFable(0, 0, 0);
        x.tell(0, 4);
        for (int a = 0; a < 5; a++) {
            x.turnPass(a, 5);
        }
        Check.due("bestPass(1), 0 to 4 at once", x.bestPass(1), 4);
        Check.due("bestPass(2), all by way of 5", x.bestPass(2), -1);
        x.turnPass(3, 5);
        Check.due("bestPass(20), 0 to 3", x.bestPass(20), 3);
        x.turnPass(0, 4);
        x.turnPass(1, 4);
        x.turnPass(2, 4);
        Check.due("bestPass(1), 3 to 4", x.bestPass(1), 6 * 3 + 4);
        x.turnPass(3, 4);
        Check.due("bestPass(1), all at once", x.bestPass(1), -1);
    }

    private static void promise38() {
        FableIndex x = new FableIndex();
        Check.due("meanBeasts() without fables", x.meanBeasts(), 0.0);
        x.addFable(0, 0, 0);
        Check.due("meanBeasts() of one", x.meanBeasts(), 1.0);
        x.addBeast(0, 1);
        x.addFable(0, 0, 0);
        Check.due("meanBeasts() of 2 and 1", x.meanBeasts(), 1.5);
        x.addFable(0, 0, 0);
        Check.due("meanBeasts() of 2, 1 and 1", x.meanBeasts(), 4.0 / 3.0);
        x.addVariant(0, 0, 5, 0);
        Check.due("meanBeasts() of 2, 1, 1 and 2", x.meanBeasts(), 1.5);
    }

    private static void promise39() {
        FableIndex x = new FableIndex();
        PlainIndex plain = new PlainIndex();
        Check.due("digest() of a new index", x.digest(), plain.digest());
        x.addFable(9, 11, 5);
        plain.addFable(9, 11, 5);
        x.addBeast(0, 2);
        plain.addBeast(0, 2);
        x.addVariant(0, 11, 4, 3);
        plain.addVariant(0, 11, 4, 3);
        x.tell(0, 0);
        plain.tell(0, 0);
        x.turnPass(0, 4);
        plain.turnPass(0, 4);
        x.turnBeast(4, 11);
        plain.turnBeast(4, 11);
        x.turnMoral(3, 9);
        plain.turnMoral(3, 9);
        Check.due("digest()", x.digest(), plain.digest());
        x.turnBeast(0, 2);
        plain.turnBeast(0, 2);
        x.passSeasons(3);
        plain.passSeasons(3);
        Check.due("digest() behind seasons", x.digest(), plain.digest());
    }
}
