/** Promises 5 to 9 at their edges: passes and bans turned there and back, tellings, and calls that are refused. */
public final class EdgeOfValleysTest {
    private EdgeOfValleysTest() {
    }

    public static void main(String[] args) {
        turnPass();
        turnPassRefused();
        turnMoral();
        turnBeast();
        bansSilenceNothingYet();
        tell();
        tellRefused();
        forget();
        forgetRefused();
        Check.end();
    }

    private static void turnPass() {
        Check.test("Promise 5: each pass opens, and closes, whichever valley comes first", () -> {
            for (int a = 0; a < 6; a++) {
                for (int b = 0; b < 6; b++) {
                    if (a != b) {
                        thereAndBack(a, b);
                    }
                }
            }
        });
        Check.test("Promise 5: all fifteen passes can be open", () -> {
            FableIndex x = Worlds.brimful();
            for (int a = 0; a < 6; a++) {
                for (int b = 0; b < 6; b++) {
                    Check.due("isOpen(" + a + ", " + b + ")", x.isOpen(a, b), a != b);
                }
            }
        });
        Check.test("Promise 5: what the one way round opened, the other way round closes", () -> {
            FableIndex x = new FableIndex();
            Check.due("turnPass(0, 5)", x.turnPass(0, 5), true);
            Check.due("turnPass(5, 0)", x.turnPass(5, 0), false);
            Check.due("isOpen(0, 5)", x.isOpen(0, 5), false);
            Check.due("isOpen(5, 0)", x.isOpen(5, 0), false);
        });
    }

    private static void thereAndBack(int a, int b) {
        FableIndex x = new FableIndex();
        Check.due("turnPass(" + a + ", " + b + ")", x.turnPass(a, b), true);
        for (int v = 0; v < 6; v++) {
            for (int w = 0; w < 6; w++) {
                boolean due = v == a && w == b || v == b && w == a;
                Check.due("isOpen(" + v + ", " + w + ")", x.isOpen(v, w), due);
            }
        }
        Check.due("turnPass(" + a + ", " + b + "), open", x.turnPass(a, b), false);
        Check.due("isOpen(" + a + ", " + b + "), closed", x.isOpen(a, b), false);
        Check.due("isOpen(" + b + ", " + a + "), closed", x.isOpen(b, a), false);
    }

    private static void turnPassRefused() {
        for (int n = 0; n < 6; n++) {
            int valley = n;
            Edge.refused("Promise 5: both are the same, valley " + n, Edge.NO_ARGUMENT, Worlds::lived,
                    x -> x.turnPass(valley, valley));
        }
        Edge.refused("Promise 5: no such valley above 5 comes before that both are the same", Edge.NO_INDEX,
                Worlds::lived, x -> x.turnPass(6, 6));
        Edge.refused("Promise 5: no such valley below 0 comes before that both are the same", Edge.NO_INDEX,
                Worlds::lived, x -> x.turnPass(-1, -1));
        Edge.refused("Promise 5: no such valley, both far below", Edge.NO_INDEX, Worlds::lived,
                x -> x.turnPass(Integer.MIN_VALUE, Integer.MIN_VALUE));
        Edge.refused("Promise 5: no such valley, one below and one above", Edge.NO_INDEX, Worlds::lived,
                x -> x.turnPass(-1, 6));
    }

    private static void turnMoral() {
        Check.test("Promise 6: each moral in each valley is banned, and allowed again", () -> {
            for (int valley = 0; valley < 6; valley++) {
                FableIndex x = Worlds.full();
                for (int moral = 0; moral < 10; moral++) {
                    String call = "turnMoral(" + valley + ", " + moral + ")";
                    Check.due(call, x.turnMoral(valley, moral), true);
                    Check.due("allowedIn behind " + call, x.allowedIn(valley), 18);
                    Check.due("isBanned behind " + call, x.isBanned(moral, valley), true);
                    Check.due("isBanned elsewhere behind " + call, x.isBanned(moral, (valley + 1) % 6), false);
                    Check.due(call + ", banned", x.turnMoral(valley, moral), false);
                    Check.due("allowedIn behind it", x.allowedIn(valley), 20);
                }
            }
        });
        Check.test("Promise 6: a moral's number bans no beast of the number", () -> {
            FableIndex x = Worlds.loose();
            x.turnMoral(0, 5);
            Check.due("isBanned(2, 0), which has the beast 5", x.isBanned(2, 0), false);
            Check.due("turnBeast(0, 5)", x.turnBeast(0, 5), true);
        });
        Check.test("Promise 6: a moral that no fable has can be banned, without fables too", () -> {
            FableIndex x = new FableIndex();
            Check.due("turnMoral(5, 9)", x.turnMoral(5, 9), true);
            x.addFable(9, 0, 0);
            Check.due("isBanned(0, 5)", x.isBanned(0, 5), true);
        });
    }

    private static void turnBeast() {
        Check.test("Promise 7: each beast in each valley is banned, and allowed again", () -> {
            for (int valley = 0; valley < 6; valley++) {
                FableIndex x = oneOfEachBeast();
                for (int beast = 0; beast < 12; beast++) {
                    String call = "turnBeast(" + valley + ", " + beast + ")";
                    Check.due(call, x.turnBeast(valley, beast), true);
                    Check.due("allowedIn behind " + call, x.allowedIn(valley), 11);
                    Check.due("isBanned behind " + call, x.isBanned(beast, valley), true);
                    Check.due("isBanned elsewhere behind " + call, x.isBanned(beast, (valley + 1) % 6), false);
                    Check.due(call + ", banned", x.turnBeast(valley, beast), false);
                    Check.due("allowedIn behind it", x.allowedIn(valley), 12);
                }
            }
        });
        Check.test("Promise 7: a beast's number bans no moral of the number", () -> {
            FableIndex x = Worlds.loose();
            x.turnBeast(0, 9);
            Check.due("isBanned(1, 0), which has the moral 9", x.isBanned(1, 0), false);
            Check.due("turnMoral(0, 9)", x.turnMoral(0, 9), true);
        });
        Check.test("Promise 7: of two banned beasts of a fable, one that is allowed again does not allow it", () -> {
            FableIndex x = Worlds.loose();
            x.turnBeast(2, 0);
            x.turnBeast(2, 11);
            Check.due("turnBeast(2, 0)", x.turnBeast(2, 0), false);
            Check.due("isBanned(0, 2)", x.isBanned(0, 2), true);
            Check.due("turnBeast(2, 11)", x.turnBeast(2, 11), false);
            Check.due("isBanned(0, 2)", x.isBanned(0, 2), false);
        });
        Check.test("Promise 7: a beast that no fable has can be banned, without fables too", () -> {
            FableIndex x = new FableIndex();
            Check.due("turnBeast(5, 11)", x.turnBeast(5, 11), true);
            x.addFable(0, 11, 0);
            Check.due("isBanned(0, 5)", x.isBanned(0, 5), true);
        });
    }

    private static FableIndex oneOfEachBeast() {
        FableIndex x = new FableIndex();
        for (int beast = 0; beast < 12; beast++) {
            x.addFable(0, beast, 0);
        }
        return x;
    }

    private static void bansSilenceNothingYet() {
        Check.test("Promise 6: nothing is silenced until the next season", () -> {
            FableIndex x = Worlds.told();
            x.turnMoral(5, 0);
            Check.due("isTold(0, 5)", x.isTold(0, 5), true);
            Check.due("tellings()", x.tellings(), 4);
            Check.due("silenced()", x.silenced(), 0);
            x.passSeasons(1);
            Check.due("isTold(0, 5) behind the season", x.isTold(0, 5), false);
            Check.due("tellings() behind the season", x.tellings(), 2);
            Check.due("silenced() behind the season", x.silenced(), 2);
        });
        Check.test("Promise 7: nothing is silenced until the next season", () -> {
            FableIndex x = Worlds.told();
            x.turnBeast(0, 11);
            Check.due("isTold(0, 0)", x.isTold(0, 0), true);
            Check.due("tellings()", x.tellings(), 4);
            Check.due("silenced()", x.silenced(), 0);
            x.passSeasons(1);
            Check.due("isTold(0, 0) behind the season", x.isTold(0, 0), false);
            Check.due("tellings() behind the season", x.tellings(), 3);
            Check.due("silenced() behind the season", x.silenced(), 1);
        });
        Check.test("Promise 6: a moral that is allowed again before the season silences nothing", () -> {
            FableIndex x = Worlds.told();
            x.turnMoral(5, 0);
            x.turnMoral(5, 0);
            Check.due("passSeasons(1)", x.passSeasons(1), 4);
            Check.due("silenced()", x.silenced(), 0);
        });
        Check.test("Promise 7: a beast that is allowed again before the season silences nothing", () -> {
            FableIndex x = Worlds.told();
            x.turnBeast(0, 11);
            x.turnBeast(0, 11);
            Check.due("passSeasons(1)", x.passSeasons(1), 4);
            Check.due("silenced()", x.silenced(), 0);
        });
    }

    private static void tell() {
        Check.test("Promise 8: a fable is told in one valley, and at last in all six", () -> {
            FableIndex x = Worlds.loose();
            for (int valley = 5; valley >= 0; valley--) {
                Check.due("tell(2, " + valley + ")", x.tell(2, valley), 6 - valley);
            }
            Check.due("valleysOf(2)", x.valleysOf(2), 6);
            Check.due("valleysOf(1)", x.valleysOf(1), 0);
        });
        Check.test("Promise 8: twenty fables in six valleys make 120 tellings", () -> {
            FableIndex x = Worlds.brimful();
            Check.due("tellings()", x.tellings(), 120);
            Check.due("toldIn(5)", x.toldIn(5), 20);
        });
        Check.test("Promise 8: what is told goes on with the next season", () -> {
            FableIndex x = Worlds.loose();
            x.turnPass(0, 5);
            x.tell(0, 5);
            Check.due("isTold(0, 5)", x.isTold(0, 5), true);
            Check.due("isTold(0, 0)", x.isTold(0, 0), false);
            Check.due("passSeasons(1)", x.passSeasons(1), 2);
        });
        Check.test("Promise 8: what was forgotten, and what was silenced, can be told again", () -> {
            FableIndex x = Worlds.told();
            x.forget(0, 0);
            Check.due("tell(0, 0)", x.tell(0, 0), 2);
            x.turnMoral(5, 0);
            x.passSeasons(1);
            x.turnMoral(5, 0);
            Check.due("tell(0, 5)", x.tell(0, 5), 2);
        });
    }

    private static void tellRefused() {
        Edge.refused("Promise 8: it is told there", Edge.NO_STATE, Worlds::told, x -> x.tell(0, 5));
        Edge.refused("Promise 8: it is told there by a season, not by a call", Edge.NO_STATE, Worlds::lived,
                x -> x.tell(2, 2));
        Edge.refused("Promise 8: it is banned there by its moral", Edge.NO_STATE, Worlds::lived,
                x -> x.tell(2, 3));
        Edge.refused("Promise 8: it is banned there by its only beast", Edge.NO_STATE, () -> {
            FableIndex x = Worlds.told();
            x.turnBeast(2, 0);
            return x;
        }, x -> x.tell(3, 2));
        Edge.refused("Promise 8: it is banned there by the last of its beasts", Edge.NO_STATE, () -> {
            FableIndex x = Worlds.told();
            x.turnBeast(2, 11);
            return x;
        }, x -> x.tell(0, 2));
        Edge.refused("Promise 8: it is banned there by its moral and a beast", Edge.NO_STATE, () -> {
            FableIndex x = Worlds.told();
            x.turnMoral(2, 0);
            x.turnBeast(2, 0);
            return x;
        }, x -> x.tell(0, 2));
        Edge.refused("Promise 8: it is told there and banned there", Edge.NO_STATE, Worlds::lived,
                x -> x.tell(2, 4));
        Edge.refused("Promise 8: it is told in each valley", Edge.NO_STATE, Worlds::brimful, x -> x.tell(19, 0));
        Edge.refused("Promise 8: no such valley comes before that it is told in each", Edge.NO_INDEX,
                Worlds::brimful, x -> x.tell(19, 6));
        Edge.refused("Promise 8: no such fable comes before that all are banned", Edge.NO_INDEX, Worlds::forbidden,
                x -> x.tell(20, 0));
        Check.test("Promise 8: what was banned can be told where it is allowed again", () -> {
            FableIndex x = Worlds.loose();
            x.turnMoral(2, 0);
            Check.thrown("tell(0, 2)", () -> x.tell(0, 2), Edge.NO_STATE);
            x.turnMoral(2, 0);
            Check.due("tell(0, 2)", x.tell(0, 2), 1);
        });
    }

    private static void forget() {
        Check.test("Promise 9: a fable is told in five valleys then, and at last in none", () -> {
            FableIndex x = Worlds.brimful();
            for (int valley = 0; valley < 6; valley++) {
                Check.due("forget(7, " + valley + ")", x.forget(7, valley), 5 - valley);
            }
            Check.due("valleysOf(7)", x.valleysOf(7), 0);
            Check.due("tellings(), of the nineteen others", x.tellings(), 114);
        });
        Check.test("Promise 9: what is banned there can be forgotten, and is not silenced by that", () -> {
            FableIndex x = Worlds.told();
            x.turnMoral(5, 0);
            Check.due("forget(0, 5)", x.forget(0, 5), 1);
            x.passSeasons(1);
            Check.due("silenced(), the other one alone", x.silenced(), 1);
        });
        Check.test("Promise 9: what a season brought can be forgotten, and comes back over the open pass", () -> {
            FableIndex x = Worlds.loose();
            x.tell(2, 0);
            x.turnPass(0, 1);
            x.passSeasons(1);
            Check.due("forget(2, 1)", x.forget(2, 1), 1);
            Check.due("passSeasons(1)", x.passSeasons(1), 2);
        });
    }

    private static void forgetRefused() {
        Edge.refused("Promise 9: it is not told there, though elsewhere", Edge.NO_STATE, Worlds::told,
                x -> x.forget(0, 1));
        Edge.refused("Promise 9: it is told nowhere", Edge.NO_STATE, Worlds::told, x -> x.forget(1, 0));
        Edge.refused("Promise 9: another one is told there", Edge.NO_STATE, Worlds::told, x -> x.forget(2, 5));
        Edge.refused("Promise 9: it was forgotten there before", Edge.NO_STATE, () -> {
            FableIndex x = Worlds.told();
            x.forget(0, 5);
            return x;
        }, x -> x.forget(0, 5));
        Edge.refused("Promise 9: it was silenced there before", Edge.NO_STATE, Worlds::lived, x -> x.forget(2, 0));
        Edge.refused("Promise 9: no such valley comes before that it is not told", Edge.NO_INDEX, Worlds::full,
                x -> x.forget(0, 6));
        Edge.refused("Promise 9: no such fable comes before that none is told", Edge.NO_INDEX, Worlds::full,
                x -> x.forget(20, 0));
    }
}
