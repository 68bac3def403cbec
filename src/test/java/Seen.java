import java.util.ArrayList;
import java.util.List;
import java.util.function.Function;
import java.util.function.Supplier;

/**
 * All that can be seen of an index by asking. An object is used for at most 512 calls, so the questions go to
 * several objects that are made alike, each of them asked a part.
 */
final class Seen {
    private static final int QUESTIONS_OF_ONE = 150;

    private final Supplier<FableIndex> make;
    private final List<String> answers = new ArrayList<>();
    private FableIndex asked;
    private int questions = 0;

    private Seen(Supplier<FableIndex> make) {
        this.make = make;
    }

    static List<String> of(Supplier<FableIndex> make) {
        Seen seen = new Seen(make);
        seen.askTheIndex();
        int fables = make.get().fables();
        for (int fable = 0; fable < fables; fable++) {
            seen.askOfFable(fable);
            for (int other = 0; other < fables; other++) {
                seen.askOfTwo(fable, other);
            }
        }
        for (int valley = 0; valley < 6; valley++) {
            seen.askOfValley(valley);
        }
        seen.askWhatComes();
        return seen.answers;
    }

    private void ask(String question, Function<FableIndex, Object> call) {
        if (questions % QUESTIONS_OF_ONE == 0) {
            asked = make.get();
        }
        questions++;
        answers.add(question + " = " + call.apply(asked));
    }

    private void askTheIndex() {
        ask("fables", FableIndex::fables);
        ask("season", FableIndex::season);
        ask("tellings", FableIndex::tellings);
        ask("silenced", FableIndex::silenced);
        ask("favouriteMoral", FableIndex::favouriteMoral);
        ask("favouriteBeast", FableIndex::favouriteBeast);
        ask("meanBeasts", FableIndex::meanBeasts);
        ask("digest", FableIndex::digest);
        ask("tellingsAfter", x -> x.tellingsAfter(3));
        ask("bestPass", x -> x.bestPass(3));
        for (int n = 0; n < 10; n++) {
            int moral = n;
            ask("fablesWithMoral " + n, x -> x.fablesWithMoral(moral));
        }
        for (int n = 0; n < 12; n++) {
            int beast = n;
            ask("fablesWithBeast " + n, x -> x.fablesWithBeast(beast));
        }
    }

    private void askOfFable(int fable) {
        ask("moralOf " + fable, x -> x.moralOf(fable));
        ask("beastsOf " + fable, x -> x.beastsOf(fable));
        ask("homeOf " + fable, x -> x.homeOf(fable));
        ask("parentOf " + fable, x -> x.parentOf(fable));
        ask("variantsOf " + fable, x -> x.variantsOf(fable));
        ask("valleysOf " + fable, x -> x.valleysOf(fable));
        for (int n = 0; n < 12; n++) {
            int beast = n;
            ask("hasBeast " + fable + " " + n, x -> x.hasBeast(fable, beast));
        }
        for (int n = 0; n < 6; n++) {
            int valley = n;
            ask("isTold " + fable + " " + n, x -> x.isTold(fable, valley));
            ask("isBanned " + fable + " " + n, x -> x.isBanned(fable, valley));
            ask("seasonsUntil " + fable + " " + n, x -> x.seasonsUntil(fable, valley));
        }
    }

    private void askOfTwo(int a, int b) {
        ask("nearestAncestor " + a + " " + b, x -> x.nearestAncestor(a, b));
        ask("kinship " + a + " " + b, x -> x.kinship(a, b));
        ask("sharedBeasts " + a + " " + b, x -> x.sharedBeasts(a, b));
    }

    private void askOfValley(int valley) {
        ask("toldIn " + valley, x -> x.toldIn(valley));
        ask("allowedIn " + valley, x -> x.allowedIn(valley));
        ask("bansOf " + valley, x -> x.bansOf(valley));
        for (int n = 0; n < 6; n++) {
            int other = n;
            ask("isOpen " + valley + " " + n, x -> x.isOpen(valley, other));
        }
    }

    /** What no question shows, such as a ban that hits no fable yet, shows in what comes of a call. */
    private void askWhatComes() {
        for (int n = 0; n < 6; n++) {
            int valley = n;
            for (int m = 0; m < 10; m++) {
                int moral = m;
                ask("turnMoral " + n + " " + m, x -> x.turnMoral(valley, moral));
            }
            for (int b = 0; b < 12; b++) {
                int beast = b;
                ask("turnBeast " + n + " " + b, x -> x.turnBeast(valley, beast));
            }
        }
        ask("passSeasons", x -> x.passSeasons(2));
        ask("silenced then", FableIndex::silenced);
        ask("digest then", FableIndex::digest);
    }
}
