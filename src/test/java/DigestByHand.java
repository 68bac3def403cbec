import java.util.ArrayList;
import java.util.List;

/** The checksum of promise 39, made of what the other calls answer. */
final class DigestByHand {
    private DigestByHand() {
    }

    static long of(FableIndex x) {
        List<Integer> numbers = new ArrayList<>(List.of(x.fables(), x.season(), x.tellings(), x.silenced(),
                x.favouriteMoral(), x.favouriteBeast()));
        for (int f = 0; f < x.fables(); f++) {
            numbers.addAll(List.of(x.moralOf(f), x.beastsOf(f), x.homeOf(f), x.parentOf(f), x.variantsOf(f),
                    x.valleysOf(f)));
            for (int beast = 0; beast < 12; beast++) {
                numbers.add(x.hasBeast(f, beast) ? 1 : 0);
            }
            for (int v = 0; v < 6; v++) {
                numbers.add(x.isTold(f, v) ? 1 : 0);
            }
            for (int v = 0; v < 6; v++) {
                numbers.add(x.isBanned(f, v) ? 1 : 0);
            }
        }
        for (int v = 0; v < 6; v++) {
            numbers.addAll(List.of(x.toldIn(v), x.allowedIn(v), x.bansOf(v)));
            for (int w = 0; w < 6; w++) {
                numbers.add(x.isOpen(v, w) ? 1 : 0);
            }
        }
        long d = 1861;
        for (int number : numbers) {
            d = d * 31 + number;
        }
        return d;
    }
}
