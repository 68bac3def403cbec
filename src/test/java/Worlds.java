/** Indices that the tests of edges start from. Each is made anew, in some 300 calls at most. */
final class Worlds {
    private Worlds() {
    }

    static FableIndex empty() {
        return new FableIndex();
    }

    /** Four fables without kin, bans or tellings: 0 has the beasts 0 and 11, 1 has 4, 2 has 5, 3 has 0. */
    static FableIndex loose() {
        FableIndex x = new FableIndex();
        x.addFable(0, 0, 0);
        x.addBeast(0, 11);
        x.addFable(9, 4, 5);
        x.addFable(4, 5, 3);
        x.addFable(0, 0, 1);
        return x;
    }

    /** The four fables, of which 0 and 3 are told in the first valley and in the last one. */
    static FableIndex told() {
        FableIndex x = loose();
        x.tell(0, 0);
        x.tell(0, 5);
        x.tell(3, 0);
        x.tell(3, 5);
        return x;
    }

    /**
     * Something of all: 1 is a variant of 0, 3 one of 1, 2 stands alone; passes, bans of both kinds, tellings,
     * one of them (2 in 4) of a fable that is banned there; two seasons that went by, and one fable silenced.
     */
    static FableIndex lived() {
        FableIndex x = new FableIndex();
        x.addFable(3, 0, 2);
        x.addBeast(0, 1);
        x.addVariant(0, 1, 2, 0);
        x.addFable(9, 11, 5);
        x.addVariant(1, 0, 5, 1);
        x.turnPass(0, 1);
        x.turnPass(1, 2);
        x.turnPass(4, 5);
        x.turnBeast(1, 0);
        x.turnMoral(3, 9);
        x.tell(0, 0);
        x.tell(2, 5);
        x.tell(2, 0);
        x.passSeasons(1);
        x.turnMoral(0, 9);
        x.passSeasons(1);
        x.tell(1, 0);
        x.turnBeast(4, 11);
        return x;
    }

    /** Twenty fables, not told: of each moral one with the beast of the same number, and a variant of it. */
    static FableIndex full() {
        FableIndex x = new FableIndex();
        for (int n = 0; n < 10; n++) {
            x.addFable(n, n, n % 6);
        }
        for (int n = 0; n < 10; n++) {
            x.addVariant(n, n, n + 2, n % 6);
        }
        return x;
    }

    /** The twenty fables, each told in each valley, with all passes open. */
    static FableIndex brimful() {
        FableIndex x = full();
        for (int valley = 0; valley < 6; valley++) {
            for (int fable = 0; fable < 20; fable++) {
                x.tell(fable, valley);
            }
            for (int other = valley + 1; other < 6; other++) {
                x.turnPass(valley, other);
            }
        }
        return x;
    }

    /** The same, with all morals and beasts banned in each valley, until now without a season. */
    static FableIndex forbidden() {
        FableIndex x = brimful();
        for (int valley = 0; valley < 6; valley++) {
            for (int moral = 0; moral < 10; moral++) {
                x.turnMoral(valley, moral);
            }
            for (int beast = 0; beast < 12; beast++) {
                x.turnBeast(valley, beast);
            }
        }
        return x;
    }

    /** Twenty fables, of which each but the first is a variant of the one before; each has one beast. */
    static FableIndex chain() {
        FableIndex x = new FableIndex();
        x.addFable(6, 0, 0);
        for (int n = 1; n < 20; n++) {
            x.addVariant(n - 1, (n - 1) % 12, n % 12, n % 6);
        }
        return x;
    }

    /** Twenty fables, of which all but the first are variants of the first. */
    static FableIndex brood() {
        FableIndex x = new FableIndex();
        x.addFable(6, 0, 0);
        for (int n = 1; n < 20; n++) {
            x.addVariant(0, 0, 1 + n % 11, n % 6);
        }
        return x;
    }
}
