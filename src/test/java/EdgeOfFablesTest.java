/** Promises 1 to 4 at their edges: an index without fables, a full one, calls that are refused and in which order. */
public final class EdgeOfFablesTest {
    private EdgeOfFablesTest() {
    }

    public static void main(String[] args) {
        newIndex();
        newIndexHasNoBans();
        addFable();
        addFableToFull();
        addBeast();
        addBeastRefused();
        addVariant();
        addVariantIsOfItsOwn();
        addVariantToFull();
        addVariantRefused();
        Check.end();
    }

    private static void newIndex() {
        Check.test("Promise 1: a new index has no fables", () -> {
            Check.due("fables()", Worlds.empty().fables(), 0);
            Check.thrown("moralOf(0)", () -> Worlds.empty().moralOf(0), Edge.NO_INDEX);
        });
        Check.test("Promise 1: a new index has no open pass", () -> {
            FableIndex x = new FableIndex();
            for (int a = 0; a < 6; a++) {
                for (int b = 0; b < 6; b++) {
                    Check.due("isOpen(" + a + ", " + b + ")", x.isOpen(a, b), false);
                }
            }
        });
        Check.test("Promise 1: a new index has no tellings, seasons and silenced ones", () -> {
            FableIndex x = new FableIndex();
            Check.due("tellings()", x.tellings(), 0);
            Check.due("season()", x.season(), 0);
            Check.due("silenced()", x.silenced(), 0);
        });
        Check.test("Promise 1: one index knows nothing of another", () -> {
            FableIndex x = new FableIndex();
            Worlds.forbidden().passSeasons(40);
            FableIndex fresh = new FableIndex();
            Check.due("digest()", x.digest(), fresh.digest());
            Check.due("fables()", x.fables(), 0);
        });
    }

    private static void newIndexHasNoBans() {
        Check.test("Promise 1: a new index has no bans to count", () -> {
            FableIndex x = new FableIndex();
            for (int valley = 0; valley < 6; valley++) {
                Check.due("bansOf(" + valley + ")", x.bansOf(valley), 0);
            }
        });
        Check.test("Promise 1: no moral and no beast is banned at first", () -> {
            FableIndex x = Worlds.full();
            x.turnPass(0, 1);
            for (int valley = 0; valley < 6; valley++) {
                Check.due("allowedIn(" + valley + ")", x.allowedIn(valley), 20);
                for (int fable = 0; fable < 20; fable++) {
                    Check.due("isBanned(" + fable + ", " + valley + ")", x.isBanned(fable, valley), false);
                }
            }
        });
    }

    private static void addFable() {
        Check.test("Promise 2: the first fable has the number 0, the next one 1", () -> {
            FableIndex x = new FableIndex();
            Check.due("addFable(0, 0, 0)", x.addFable(0, 0, 0), 0);
            Check.due("addFable(0, 0, 0)", x.addFable(0, 0, 0), 1);
            Check.due("fables()", x.fables(), 2);
        });
        Check.test("Promise 2: the smallest numbers are kept", () -> kept(0, 0, 0));
        Check.test("Promise 2: the greatest numbers are kept", () -> kept(9, 11, 5));
        Check.test("Promise 2: a new fable is not told yet, nor at its home", () -> {
            FableIndex x = Worlds.lived();
            int fable = x.addFable(3, 0, 0);
            Check.due("valleysOf", x.valleysOf(fable), 0);
            for (int valley = 0; valley < 6; valley++) {
                Check.due("isTold in " + valley, x.isTold(fable, valley), false);
            }
        });
        Check.test("Promise 2: a new fable has no parent and no variant", () -> {
            FableIndex x = Worlds.lived();
            int fable = x.addFable(3, 0, 0);
            Check.due("parentOf", x.parentOf(fable), -1);
            Check.due("variantsOf", x.variantsOf(fable), 0);
        });
        Check.test("Promise 2: a home where the fable is banned is allowed", () -> {
            FableIndex x = Worlds.lived();
            Check.due("addFable(9, 11, 4)", x.addFable(9, 11, 4), 4);
            Check.due("isBanned(4, 4)", x.isBanned(4, 4), true);
            Check.due("homeOf(4)", x.homeOf(4), 4);
        });
    }

    private static void kept(int moral, int beast, int home) {
        FableIndex x = new FableIndex();
        Check.due("addFable", x.addFable(moral, beast, home), 0);
        Check.due("moralOf(0)", x.moralOf(0), moral);
        Check.due("homeOf(0)", x.homeOf(0), home);
        Check.due("beastsOf(0)", x.beastsOf(0), 1);
        for (int n = 0; n < 12; n++) {
            Check.due("hasBeast(0, " + n + ")", x.hasBeast(0, n), n == beast);
        }
    }

    private static void addFableToFull() {
        Check.test("Promise 2: the twentieth fable is the last that is written down", () -> {
            FableIndex x = new FableIndex();
            for (int n = 0; n < 20; n++) {
                Check.due("addFable", x.addFable(n % 10, n % 12, n % 6), n);
            }
            Check.due("fables()", x.fables(), 20);
            Check.due("moralOf(19)", x.moralOf(19), 9);
        });
        Edge.refused("Promise 2: the twenty-first fable is refused", Edge.NO_STATE, Worlds::full,
                x -> x.addFable(0, 0, 0));
        Edge.refused("Promise 2: a full index refuses a fable that no other is like", Edge.NO_STATE, Worlds::chain,
                x -> x.addFable(1, 11, 5));
        Edge.refused("Promise 2: no such moral comes before there are 20", Edge.NO_INDEX, Worlds::full,
                x -> x.addFable(10, 0, 0));
        Edge.refused("Promise 2: no such beast comes before there are 20", Edge.NO_INDEX, Worlds::full,
                x -> x.addFable(0, 12, 0));
        Edge.refused("Promise 2: no such valley comes before there are 20", Edge.NO_INDEX, Worlds::full,
                x -> x.addFable(0, 0, 6));
        Check.test("Promise 2: refused fables take no number", () -> {
            FableIndex x = new FableIndex();
            Check.thrown("addFable(10, 0, 0)", () -> x.addFable(10, 0, 0), Edge.NO_INDEX);
            Check.thrown("addFable(0, 12, 0)", () -> x.addFable(0, 12, 0), Edge.NO_INDEX);
            Check.thrown("addFable(0, 0, 6)", () -> x.addFable(0, 0, 6), Edge.NO_INDEX);
            Check.due("addFable(0, 0, 0)", x.addFable(0, 0, 0), 0);
        });
    }

    private static void addBeast() {
        Check.test("Promise 3: a fable can have all twelve beasts", () -> {
            FableIndex x = new FableIndex();
            x.addFable(0, 6, 0);
            int had = 1;
            for (int beast = 11; beast >= 0; beast--) {
                if (beast != 6) {
                    had++;
                    Check.due("addBeast(0, " + beast + ")", x.addBeast(0, beast), had);
                }
            }
            Check.due("beastsOf(0)", x.beastsOf(0), 12);
        });
        Check.test("Promise 3: the second beast makes two", () ->
                Check.due("addBeast(3, 11)", Worlds.loose().addBeast(3, 11), 2));
        Check.test("Promise 3: a fable of a full index may still have another beast", () -> {
            FableIndex x = Worlds.full();
            Check.due("addBeast(19, 0)", x.addBeast(19, 0), 2);
            Check.due("fables()", x.fables(), 20);
        });
        Check.test("Promise 3: a variant that has none itself may have another beast, its parent has it not", () -> {
            FableIndex x = Worlds.lived();
            Check.due("addBeast(3, 11)", x.addBeast(3, 11), 3);
            Check.due("hasBeast(1, 11)", x.hasBeast(1, 11), false);
            Check.due("hasBeast(0, 11)", x.hasBeast(0, 11), false);
        });
        Check.test("Promise 3: where the new beast is banned, the fable is silenced with the next season", () -> {
            FableIndex x = Worlds.told();
            x.turnBeast(5, 7);
            Check.due("addBeast(3, 7)", x.addBeast(3, 7), 2);
            Check.due("isTold(3, 5)", x.isTold(3, 5), true);
            Check.due("silenced()", x.silenced(), 0);
            x.passSeasons(1);
            Check.due("isTold(3, 5) behind the season", x.isTold(3, 5), false);
            Check.due("silenced() behind the season", x.silenced(), 1);
        });
    }

    private static void addBeastRefused() {
        Edge.refused("Promise 3: its first beast once more is refused", Edge.NO_STATE, Worlds::loose,
                x -> x.addBeast(1, 4));
        Edge.refused("Promise 3: a beast that was added is refused once more", Edge.NO_STATE, Worlds::loose,
                x -> x.addBeast(0, 11));
        Check.test("Promise 3: no thirteenth beast, as it has each", () -> {
            for (int n = 0; n < 12; n++) {
                int beast = n;
                FableIndex x = ark();
                Check.thrown("addBeast(0, " + n + ")", () -> x.addBeast(0, beast), Edge.NO_STATE);
                Check.due("beastsOf(0)", x.beastsOf(0), 12);
            }
        });
        Edge.refused("Promise 3: a fable with one variant is refused another beast", Edge.NO_STATE, Worlds::lived,
                x -> x.addBeast(0, 7));
        Edge.refused("Promise 3: a variant that has one itself is refused another beast", Edge.NO_STATE,
                Worlds::lived, x -> x.addBeast(1, 7));
        Edge.refused("Promise 3: the first of a full index, with 19 variants, is refused", Edge.NO_STATE,
                Worlds::brood, x -> x.addBeast(0, 11));
        Edge.refused("Promise 3: with a variant and with the beast it is refused", Edge.NO_STATE, Worlds::lived,
                x -> x.addBeast(0, 0));
        Edge.refused("Promise 3: the beast that its variant has in the place is refused", Edge.NO_STATE,
                Worlds::lived, x -> x.addBeast(0, 2));
        Edge.refused("Promise 3: no such beast comes before that it has a variant", Edge.NO_INDEX, Worlds::lived,
                x -> x.addBeast(0, 12));
        Edge.refused("Promise 3: no such beast below 0 comes before that it has a variant", Edge.NO_INDEX,
                Worlds::lived, x -> x.addBeast(0, -1));
    }

    /** One fable with all beasts. */
    private static FableIndex ark() {
        FableIndex x = new FableIndex();
        x.addFable(0, 0, 0);
        for (int beast = 1; beast < 12; beast++) {
            x.addBeast(0, beast);
        }
        return x;
    }

    private static void addVariant() {
        Check.test("Promise 4: a variant has the next number", () -> {
            FableIndex x = Worlds.loose();
            Check.due("addVariant(0, 0, 1, 0)", x.addVariant(0, 0, 1, 0), 4);
            Check.due("addVariant(4, 1, 0, 0)", x.addVariant(4, 1, 0, 0), 5);
            Check.due("fables()", x.fables(), 6);
        });
        Check.test("Promise 4: the first beast goes, the last one comes", () -> exchanged(3, 0, 11));
        Check.test("Promise 4: the last beast goes, the first one but one comes", () -> exchanged(0, 11, 1));
        Check.test("Promise 4: of eleven beasts one goes, and the twelfth comes", () -> {
            FableIndex x = new FableIndex();
            x.addFable(0, 0, 0);
            for (int beast = 1; beast < 11; beast++) {
                x.addBeast(0, beast);
            }
            Check.due("addVariant(0, 4, 11, 5)", x.addVariant(0, 4, 11, 5), 1);
            Check.due("beastsOf(1)", x.beastsOf(1), 11);
            Check.due("hasBeast(1, 4)", x.hasBeast(1, 4), false);
            Check.due("hasBeast(1, 11)", x.hasBeast(1, 11), true);
        });
        Check.test("Promise 4: a variant is not told yet, though its parent is", () -> {
            FableIndex x = Worlds.told();
            int variant = x.addVariant(3, 0, 1, 0);
            Check.due("valleysOf the variant", x.valleysOf(variant), 0);
            Check.due("valleysOf(3)", x.valleysOf(3), 2);
        });
        Check.test("Promise 4: two variants of one fable may be alike", () -> {
            FableIndex x = Worlds.loose();
            Check.due("addVariant(3, 0, 1, 0)", x.addVariant(3, 0, 1, 0), 4);
            Check.due("addVariant(3, 0, 1, 0)", x.addVariant(3, 0, 1, 0), 5);
            Check.due("variantsOf(3)", x.variantsOf(3), 2);
        });
    }

    private static void exchanged(int fable, int gone, int comes) {
        FableIndex x = Worlds.loose();
        int variant = x.addVariant(fable, gone, comes, 4);
        for (int beast = 0; beast < 12; beast++) {
            boolean due = beast == comes || beast != gone && x.hasBeast(fable, beast);
            Check.due("hasBeast(variant, " + beast + ")", x.hasBeast(variant, beast), due);
        }
        Check.due("beastsOf", x.beastsOf(variant), x.beastsOf(fable));
        Check.due("moralOf", x.moralOf(variant), x.moralOf(fable));
        Check.due("homeOf, its own", x.homeOf(variant), 4);
        Check.due("parentOf", x.parentOf(variant), fable);
        Check.due("hasBeast(fable, gone), it goes from the variant alone", x.hasBeast(fable, gone), true);
        Check.due("hasBeast(fable, comes)", x.hasBeast(fable, comes), false);
    }

    private static void addVariantIsOfItsOwn() {
        Check.test("Promise 4: a variant of a variant is not counted as one of the first", () -> {
            FableIndex x = Worlds.loose();
            x.addVariant(3, 0, 1, 0);
            x.addVariant(4, 1, 2, 0);
            Check.due("variantsOf(3)", x.variantsOf(3), 1);
            Check.due("variantsOf(4)", x.variantsOf(4), 1);
            Check.due("parentOf(5)", x.parentOf(5), 4);
        });
        Check.test("Promise 4: a beast that has gone may come again in a variant of the variant", () -> {
            FableIndex x = Worlds.loose();
            x.addVariant(3, 0, 1, 0);
            Check.due("addVariant(4, 1, 0, 0)", x.addVariant(4, 1, 0, 0), 5);
            Check.due("hasBeast(5, 0)", x.hasBeast(5, 0), true);
            Check.due("hasBeast(5, 1)", x.hasBeast(5, 1), false);
        });
        Check.test("Promise 4: twenty fables may be variants one of the other", () -> {
            FableIndex x = Worlds.chain();
            Check.due("parentOf(19)", x.parentOf(19), 18);
            Check.due("parentOf(1)", x.parentOf(1), 0);
            Check.due("hasBeast(19, 7)", x.hasBeast(19, 7), true);
            Check.due("beastsOf(19)", x.beastsOf(19), 1);
            Check.due("moralOf(19)", x.moralOf(19), 6);
        });
    }

    private static void addVariantToFull() {
        Check.test("Promise 4: the twentieth fable may be a variant", () -> {
            FableIndex x = new FableIndex();
            for (int n = 0; n < 19; n++) {
                x.addFable(0, 0, 0);
            }
            Check.due("addVariant(18, 0, 1, 0)", x.addVariant(18, 0, 1, 0), 19);
            Check.due("fables()", x.fables(), 20);
            Check.due("variantsOf(18)", x.variantsOf(18), 1);
        });
        Edge.refused("Promise 4: a variant as the twenty-first fable is refused", Edge.NO_STATE, Worlds::full,
                x -> x.addVariant(0, 0, 11, 0));
        Edge.refused("Promise 4: a variant of the last of a full index is refused", Edge.NO_STATE, Worlds::chain,
                x -> x.addVariant(19, 7, 8, 0));
        Edge.refused("Promise 4: no such fable comes before there are 20", Edge.NO_INDEX, Worlds::full,
                x -> x.addVariant(20, 0, 11, 0));
        Edge.refused("Promise 4: no such beast to go comes before there are 20", Edge.NO_INDEX, Worlds::full,
                x -> x.addVariant(0, 12, 11, 0));
        Edge.refused("Promise 4: no such beast to come comes before there are 20", Edge.NO_INDEX, Worlds::full,
                x -> x.addVariant(0, 0, 12, 0));
        Edge.refused("Promise 4: no such valley comes before there are 20", Edge.NO_INDEX, Worlds::full,
                x -> x.addVariant(0, 0, 11, 6));
    }

    private static void addVariantRefused() {
        Edge.refused("Promise 4: the fable has not the beast that goes", Edge.NO_STATE, Worlds::lived,
                x -> x.addVariant(0, 7, 8, 0));
        Edge.refused("Promise 4: the fable has the beast that comes", Edge.NO_STATE, Worlds::lived,
                x -> x.addVariant(0, 0, 1, 0));
        Edge.refused("Promise 4: the fable has not the one, and has the other", Edge.NO_STATE, Worlds::lived,
                x -> x.addVariant(0, 7, 1, 0));
        Edge.refused("Promise 4: a beast of its own comes in its own place", Edge.NO_STATE, Worlds::lived,
                x -> x.addVariant(0, 0, 0, 0));
        Edge.refused("Promise 4: a beast that it has not comes in its own place", Edge.NO_STATE, Worlds::lived,
                x -> x.addVariant(0, 7, 7, 0));
        Edge.refused("Promise 4: the beast that goes is its parent's alone", Edge.NO_STATE, Worlds::lived,
                x -> x.addVariant(1, 1, 7, 0));
        Edge.refused("Promise 4: no such valley comes before that it has not the beast", Edge.NO_INDEX,
                Worlds::lived, x -> x.addVariant(0, 7, 8, 6));
        Edge.refused("Promise 4: no such valley comes before that it has the beast", Edge.NO_INDEX, Worlds::lived,
                x -> x.addVariant(0, 0, 1, -1));
        Edge.refused("Promise 4: no such beast to come comes before that it has not the one to go", Edge.NO_INDEX,
                Worlds::lived, x -> x.addVariant(0, 7, 12, 0));
        Edge.refused("Promise 4: no such beast to go comes before that it has the one to come", Edge.NO_INDEX,
                Worlds::lived, x -> x.addVariant(0, 12, 1, 0));
        Check.test("Promise 4: refused variants take no number, and the fable may have another beast still", () -> {
            FableIndex x = Worlds.loose();
            Check.thrown("addVariant(3, 5, 7, 0)", () -> x.addVariant(3, 5, 7, 0), Edge.NO_STATE);
            Check.thrown("addVariant(3, 0, 7, 6)", () -> x.addVariant(3, 0, 7, 6), Edge.NO_INDEX);
            Check.due("addBeast(3, 7)", x.addBeast(3, 7), 2);
            Check.due("addVariant(3, 0, 1, 0)", x.addVariant(3, 0, 1, 0), 4);
        });
    }
}
