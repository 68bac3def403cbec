/** Promises 5 to 10 and 21 to 26: passes, bans, tellings and seasons. */
public final class ValleysTest {
    private ValleysTest() {
    }

    public static void main(String[] args) {
        promise5And21();
        promise6();
        promise7();
        promise8();
        promise9();
        promise10();
        whatIsSilencedGoesNowhere();
        variantsGoInPlace();
        newTellingsWaitForTheNextSeason();
        promises22To26();
        Check.end();
    }

    private static void promise5And21() {
        FableIndex x = new FableIndex();
        Check.due("turnPass(4, 1)", x.turnPass(4, 1), true);
        Check.due("isOpen(1, 4)", x.isOpen(1, 4), true);
        Check.due("isOpen(4, 1)", x.isOpen(4, 1), true);
        Check.due("isOpen(1, 1)", x.isOpen(1, 1), false);
        Check.due("isOpen(1, 5)", x.isOpen(1, 5), false);
        Check.noSuch(x, "turnPass(-1, 0)", () -> x.turnPass(-1, 0));
        Check.noSuch(x, "turnPass(0, -1)", () -> x.turnPass(0, -1));
        Check.noSuch(x, "turnPass(6, 0)", () -> x.turnPass(6, 0));
        Check.noSuch(x, "turnPass(0, 6)", () -> x.turnPass(0, 6));
        Check.noSuch(x, "turnPass(6, 6)", () -> x.turnPass(6, 6));
        Check.noSuch(x, "turnPass(-1, -1)", () -> x.turnPass(-1, -1));
        Check.noArgument(x, "turnPass(0, 0)", () -> x.turnPass(0, 0));
        Check.noArgument(x, "turnPass(5, 5)", () -> x.turnPass(5, 5));
        Check.noSuch(x, "isOpen(6, 0)", () -> x.isOpen(6, 0));
        Check.noSuch(x, "isOpen(0, 6)", () -> x.isOpen(0, 6));
        Check.noSuch(x, "isOpen(-1, 0)", () -> x.isOpen(-1, 0));
        Check.noSuch(x, "isOpen(0, -1)", () -> x.isOpen(0, -1));
        Check.due("turnPass(1, 4), open already", x.turnPass(1, 4), false);
        Check.due("isOpen(4, 1), closed", x.isOpen(4, 1), false);
        Check.due("isOpen(1, 4), closed", x.isOpen(1, 4), false);
        Check.due("turnPass(0, 5)", x.turnPass(0, 5), true);
        Check.due("isOpen(5, 0)", x.isOpen(5, 0), true);
    }

    private static void promise6() {
        FableIndex x = new FableIndex();
        x.addFable(9, 0, 0);
        x.tell(0, 5);
        Check.due("turnMoral(5, 9)", x.turnMoral(5, 9), true);
        Check.due("isTold(0, 5) until the season", x.isTold(0, 5), true);
        Check.due("silenced() until the season", x.silenced(), 0);
        Check.due("isBanned(0, 5)", x.isBanned(0, 5), true);
        Check.due("isBanned(0, 4)", x.isBanned(0, 4), false);
        Check.due("turnMoral(5, 9), banned already", x.turnMoral(5, 9), false);
        Check.due("isBanned(0, 5), allowed", x.isBanned(0, 5), false);
        Check.due("turnMoral(0, 0)", x.turnMoral(0, 0), true);
        Check.noSuch(x, "turnMoral(-1, 0)", () -> x.turnMoral(-1, 0));
        Check.noSuch(x, "turnMoral(6, 0)", () -> x.turnMoral(6, 0));
        Check.noSuch(x, "turnMoral(0, -1)", () -> x.turnMoral(0, -1));
        Check.noSuch(x, "turnMoral(0, 10)", () -> x.turnMoral(0, 10));
    }

    private static void promise7() {
        FableIndex x = new FableIndex();
        x.addFable(0, 2, 0);
        x.addBeast(0, 11);
        x.tell(0, 5);
        Check.due("turnBeast(5, 11)", x.turnBeast(5, 11), true);
        Check.due("isTold(0, 5) until the season", x.isTold(0, 5), true);
        Check.due("silenced() until the season", x.silenced(), 0);
        Check.due("isBanned(0, 5)", x.isBanned(0, 5), true);
        Check.due("turnBeast(5, 2)", x.turnBeast(5, 2), true);
        Check.due("turnBeast(5, 11), banned already", x.turnBeast(5, 11), false);
        Check.due("isBanned(0, 5), still by 2", x.isBanned(0, 5), true);
        Check.due("turnBeast(5, 2), banned already", x.turnBeast(5, 2), false);
        Check.due("isBanned(0, 5), allowed", x.isBanned(0, 5), false);
        Check.noSuch(x, "turnBeast(-1, 0)", () -> x.turnBeast(-1, 0));
        Check.noSuch(x, "turnBeast(6, 0)", () -> x.turnBeast(6, 0));
        Check.noSuch(x, "turnBeast(0, -1)", () -> x.turnBeast(0, -1));
        Check.noSuch(x, "turnBeast(0, 12)", () -> x.turnBeast(0, 12));
    }

    private static void promise8() {
        FableIndex x = new FableIndex();
        x.addFable(4, 2, 0);
        Check.due("tell(0, 5)", x.tell(0, 5), 1);
        Check.due("tell(0, 0)", x.tell(0, 0), 2);
        Check.due("isTold(0, 5)", x.isTold(0, 5), true);
        x.turnMoral(1, 4);
        x.turnBeast(2, 2);
        x.turnMoral(5, 4);
        Check.noState(x, "tell(0, 0), told there", () -> x.tell(0, 0));
        Check.noState(x, "tell(0, 1), moral banned", () -> x.tell(0, 1));
        Check.noState(x, "tell(0, 2), beast banned", () -> x.tell(0, 2));
        Check.noState(x, "tell(0, 5), told and banned", () -> x.tell(0, 5));
        Check.noSuch(x, "tell(1, 0)", () -> x.tell(1, 0));
        Check.noSuch(x, "tell(-1, 0)", () -> x.tell(-1, 0));
        Check.noSuch(x, "tell(0, 6)", () -> x.tell(0, 6));
        Check.noSuch(x, "tell(0, -1)", () -> x.tell(0, -1));
        Check.due("tell(0, 3)", x.tell(0, 3), 3);
    }

    private static void promise9() {
        FableIndex x = new FableIndex();
        x.addFable(4, 2, 0);
        x.addFable(4, 2, 0);
        x.tell(0, 1);
        x.tell(0, 2);
        x.tell(1, 3);
        Check.noState(x, "forget(0, 3)", () -> x.forget(0, 3));
        Check.noSuch(x, "forget(2, 1)", () -> x.forget(2, 1));
        Check.noSuch(x, "forget(-1, 1)", () -> x.forget(-1, 1));
        Check.noSuch(x, "forget(0, 6)", () -> x.forget(0, 6));
        Check.noSuch(x, "forget(0, -1)", () -> x.forget(0, -1));
        x.turnMoral(1, 4);
        Check.due("forget(0, 1), banned there", x.forget(0, 1), 1);
        Check.due("isTold(0, 1)", x.isTold(0, 1), false);
        Check.due("forget(0, 2)", x.forget(0, 2), 0);
        Check.noState(x, "forget(0, 2) once more", () -> x.forget(0, 2));
        Check.due("silenced(), none by forgetting", x.silenced(), 0);
        Check.due("isTold(1, 3)", x.isTold(1, 3), true);
    }

    private static void promise10() {
        FableIndex x = new FableIndex();
        Check.noArgument(x, "passSeasons(0)", () -> x.passSeasons(0));
        Check.noArgument(x, "passSeasons(-1)", () -> x.passSeasons(-1));
        Check.noArgument(x, "passSeasons(41)", () -> x.passSeasons(41));
        Check.noArgument(x, "passSeasons(MIN)", () -> x.passSeasons(Integer.MIN_VALUE));
        Check.noArgument(x, "passSeasons(MAX)", () -> x.passSeasons(Integer.MAX_VALUE));
        Check.due("passSeasons(40) of nothing", x.passSeasons(40), 0);
        Check.due("season()", x.season(), 40);
        x.addFable(0, 0, 0);
        x.tell(0, 2);
        x.turnPass(2, 1);
        x.turnPass(1, 0);
        x.turnPass(0, 5);
        Check.due("passSeasons(1)", x.passSeasons(1), 2);
        Check.due("isTold(0, 2), it stays where it was", x.isTold(0, 2), true);
        Check.due("isTold(0, 1)", x.isTold(0, 1), true);
        Check.due("isTold(0, 0), not two passes at once", x.isTold(0, 0), false);
        Check.due("passSeasons(2)", x.passSeasons(2), 4);
        Check.due("isTold(0, 5)", x.isTold(0, 5), true);
        Check.due("isTold(0, 3)", x.isTold(0, 3), false);
        Check.due("season()", x.season(), 43);
        // Seasons in which nothing changes go by as others do.
        Check.due("passSeasons(39)", x.passSeasons(39), 4);
        Check.due("season()", x.season(), 82);
        Check.due("passSeasons(3) of a ring", ring().passSeasons(3), 36);
        FableIndex stepwise = ring();
        Check.due("passSeasons(1) of a ring", stepwise.passSeasons(1), 18);
        Check.due("passSeasons(1) of a ring", stepwise.passSeasons(1), 30);
        Check.due("passSeasons(1) of a ring", stepwise.passSeasons(1), 36);
    }

    /** The valleys in a ring, a fable in each, so that something changes in all of them at once. */
    private static FableIndex ring() {
        FableIndex x = new FableIndex();
        for (int valley = 0; valley < 6; valley++) {
            x.turnPass(valley, (valley + 1) % 6);
            x.addFable(valley, valley, valley);
            x.tell(valley, valley);
        }
        return x;
    }

    private static void whatIsSilencedGoesNowhere() {
        FableIndex x = new FableIndex();
        x.addFable(0, 0, 0);
        x.addFable(1, 1, 0);
        x.tell(0, 0);
        x.tell(0, 3);
        x.tell(1, 0);
        x.turnPass(0, 1);
        x.turnMoral(0, 0);
        x.turnBeast(3, 0);
        Check.due("passSeasons(1)", x.passSeasons(1), 2);
        Check.due("silenced(), two by a moral and a beast", x.silenced(), 2);
        Check.due("isTold(0, 0)", x.isTold(0, 0), false);
        Check.due("isTold(0, 1)", x.isTold(0, 1), false);
        Check.due("isTold(0, 3)", x.isTold(0, 3), false);
        Check.due("isTold(1, 1)", x.isTold(1, 1), true);
        Check.due("passSeasons(7)", x.passSeasons(7), 2);
        Check.due("silenced(), no more", x.silenced(), 2);
        // One who is silenced and allowed again is told no more by that alone.
        x.turnMoral(0, 0);
        Check.due("passSeasons(1)", x.passSeasons(1), 2);
        x.tell(0, 0);
        x.turnMoral(0, 0);
        x.passSeasons(1);
        Check.due("silenced(), the same one once more", x.silenced(), 3);
        silencedWithNeighbour();
    }

    /** The fable comes back over a pass no more where it is banned, though told beyond. */
    private static void silencedWithNeighbour() {
        FableIndex x = new FableIndex();
        x.addFable(0, 0, 0);
        x.tell(0, 0);
        x.tell(0, 1);
        x.turnPass(0, 1);
        x.turnBeast(0, 0);
        Check.due("passSeasons(3)", x.passSeasons(3), 1);
        Check.due("silenced()", x.silenced(), 1);
        Check.due("isTold(0, 1)", x.isTold(0, 1), true);
    }

    private static void variantsGoInPlace() {
        FableIndex x = new FableIndex();
        x.addFable(2, 0, 0);
        x.addBeast(0, 9);
        x.addFable(2, 5, 0);
        x.addVariant(0, 0, 1, 0);
        x.addVariant(0, 0, 3, 0);
        x.addVariant(2, 1, 4, 0);
        x.tell(0, 0);
        x.turnPass(0, 1);
        x.turnPass(0, 2);
        x.turnPass(0, 3);
        x.turnPass(0, 4);
        x.turnPass(0, 5);
        // 1: the first variant is allowed. 2: only the second one. 3: only the variant of a variant.
        x.turnBeast(1, 0);
        x.turnBeast(2, 0);
        x.turnBeast(2, 1);
        x.turnBeast(3, 0);
        x.turnBeast(3, 1);
        x.turnBeast(3, 3);
        // 4: the moral is banned. 5: the beast that all of them have.
        x.turnMoral(4, 2);
        x.turnBeast(5, 9);
        Check.due("passSeasons(1)", x.passSeasons(1), 3);
        Check.due("isTold(0, 0)", x.isTold(0, 0), true);
        Check.due("isTold(2, 1)", x.isTold(2, 1), true);
        Check.due("isTold(3, 1), only the first", x.isTold(3, 1), false);
        Check.due("isTold(3, 2)", x.isTold(3, 2), true);
        Check.due("isTold(2, 2)", x.isTold(2, 2), false);
        Check.due("toldIn(3)", x.toldIn(3), 0);
        Check.due("toldIn(4)", x.toldIn(4), 0);
        Check.due("toldIn(5)", x.toldIn(5), 0);
        // The variants go back on their own, and from there to the valleys beyond: in 3 the variant
        // of 2 is told in its place.
        Check.due("passSeasons(1)", x.passSeasons(1), 5);
        Check.due("isTold(2, 0)", x.isTold(2, 0), true);
        Check.due("isTold(3, 0)", x.isTold(3, 0), true);
        // From 0 then 2 goes to 1, 3 to 1 and 2; in 2 and 3 comes 4 in the place of 2.
        Check.due("passSeasons(1)", x.passSeasons(1), 8);
        Check.due("isTold(3, 1)", x.isTold(3, 1), true);
        Check.due("isTold(4, 2)", x.isTold(4, 2), true);
        Check.due("isTold(4, 3)", x.isTold(4, 3), true);
        Check.due("silenced()", x.silenced(), 0);
        variantStandsNotInForTheSilenced();
        allowedFableGoesItself();
    }

    private static void variantStandsNotInForTheSilenced() {
        FableIndex x = new FableIndex();
        x.addFable(2, 0, 0);
        x.addVariant(0, 0, 1, 0);
        x.tell(0, 0);
        x.turnPass(0, 1);
        x.turnBeast(0, 0);
        Check.due("passSeasons(1)", x.passSeasons(1), 0);
        Check.due("silenced()", x.silenced(), 1);
        Check.due("isTold(1, 0)", x.isTold(1, 0), false);
        Check.due("isTold(1, 1)", x.isTold(1, 1), false);
    }

    private static void allowedFableGoesItself() {
        FableIndex x = new FableIndex();
        x.addFable(2, 0, 0);
        x.addVariant(0, 0, 1, 0);
        x.tell(0, 5);
        x.turnPass(5, 4);
        x.turnBeast(4, 1);
        Check.due("passSeasons(1)", x.passSeasons(1), 2);
        Check.due("isTold(0, 4)", x.isTold(0, 4), true);
        Check.due("isTold(1, 4)", x.isTold(1, 4), false);
    }

    /** Both ways along a row of valleys, so that neither order of the valleys can hide a step too many. */
    private static void newTellingsWaitForTheNextSeason() {
        FableIndex x = new FableIndex();
        x.addFable(0, 0, 0);
        x.addFable(1, 1, 0);
        for (int a = 0; a < 5; a++) {
            x.turnPass(a, a + 1);
        }
        x.tell(0, 0);
        x.tell(1, 5);
        for (int seasons = 1; seasons < 6; seasons++) {
            Check.due("passSeasons(1)", x.passSeasons(1), 2 + 2 * seasons);
            Check.due("isTold(0, " + seasons + ")", x.isTold(0, seasons), true);
            Check.due("isTold(1, " + (5 - seasons) + ")", x.isTold(1, 5 - seasons), true);
        }
        Check.due("passSeasons(1)", x.passSeasons(1), 12);
    }

    private static void promises22To26() {
        FableIndex x = new FableIndex();
        Check.due("allowedIn(0) without fables", x.allowedIn(0), 0);
        Check.noSuch(x, "isBanned(0, 0) without fables", () -> x.isBanned(0, 0));
        Check.noSuch(x, "isTold(0, 0) without fables", () -> x.isTold(0, 0));
        x.addFable(0, 0, 0);
        x.addFable(1, 0, 0);
        x.addFable(1, 1, 0);
        x.addVariant(2, 1, 2, 0);
        x.tell(0, 5);
        x.tell(1, 5);
        x.tell(2, 5);
        x.tell(2, 0);
        x.turnMoral(5, 0);
        x.turnBeast(5, 0);
        x.turnBeast(5, 1);
        x.turnBeast(5, 11);
        x.turnMoral(5, 9);
        boolean[] banned = {true, true, true, false};
        boolean[] told = {true, true, true, false};
        for (int fable = 0; fable < 4; fable++) {
            Check.due("isBanned(" + fable + ", 5)", x.isBanned(fable, 5), banned[fable]);
            Check.due("isBanned(" + fable + ", 0)", x.isBanned(fable, 0), false);
            Check.due("isTold(" + fable + ", 5)", x.isTold(fable, 5), told[fable]);
            Check.due("isTold(" + fable + ", 1)", x.isTold(fable, 1), false);
        }
        Check.due("toldIn(5), the banned ones too", x.toldIn(5), 3);
        Check.due("toldIn(0)", x.toldIn(0), 1);
        Check.due("toldIn(1)", x.toldIn(1), 0);
        Check.due("allowedIn(5), whether told or not", x.allowedIn(5), 1);
        Check.due("allowedIn(0)", x.allowedIn(0), 4);
        Check.due("bansOf(5)", x.bansOf(5), 5);
        Check.due("bansOf(0)", x.bansOf(0), 0);
        for (int bad : new int[] {-1, 6, Integer.MIN_VALUE, Integer.MAX_VALUE}) {
            Check.noSuch(x, "isBanned(0, " + bad + ")", () -> x.isBanned(0, bad));
            Check.noSuch(x, "isTold(0, " + bad + ")", () -> x.isTold(0, bad));
            Check.noSuch(x, "isBanned(" + bad + ", 0)", () -> x.isBanned(bad, 0));
            Check.noSuch(x, "isTold(" + bad + ", 0)", () -> x.isTold(bad, 0));
            Check.noSuch(x, "toldIn(" + bad + ")", () -> x.toldIn(bad));
            Check.noSuch(x, "allowedIn(" + bad + ")", () -> x.allowedIn(bad));
            Check.noSuch(x, "bansOf(" + bad + ")", () -> x.bansOf(bad));
        }
        Check.noSuch(x, "isBanned(4, 0)", () -> x.isBanned(4, 0));
        Check.noSuch(x, "isTold(4, 0)", () -> x.isTold(4, 0));
    }
}
