import java.util.LinkedHashMap;
import java.util.Map;
import java.util.Set;
import java.util.TreeSet;

/** All that can be seen of an object, each thing by a name. Looking uses the object up: it is of no use behind it. */
final class Seen {
    private final Map<String, Long> things = new LinkedHashMap<>();
    private final LieNights x;

    private Seen(LieNights x) {
        this.x = x;
        see("trace", x.trace());
        // The readings come first: what is left by them hangs on the places and kinds, which are not touched.
        seeReadings();
        seeSecret();
        for (int k = 0; k < 4; k++) {
            seeSheet(k);
        }
    }

    static Seen of(LieNights x) {
        return new Seen(x);
    }

    /** The names of what is not alike in both, in the order of the alphabet; an empty text, if all is alike. */
    String unlike(Seen other) {
        Set<String> names = new TreeSet<>(things.keySet());
        names.addAll(other.things.keySet());
        names.removeIf(name -> things.containsKey(name) && things.get(name).equals(other.things.get(name)));
        return String.join(" ", names);
    }

    private void see(String name, long value) {
        things.put(name, value);
    }

    private void seeReadings() {
        see("readings", x.many(3));
        for (int r = x.many(3) - 1; r >= 0; r--) {
            see("left-" + r, x.left());
            for (int a = 0; a < x.many(0); a++) {
                see("places-" + r + "-" + a, x.places(a));
            }
            x.back(1);
        }
    }

    private void seeSecret() {
        see("answers", x.many(0));
        see("pillars", x.many(1));
        see("growth", x.many(2));
        for (int a = 0; a < x.many(0); a++) {
            see("kind-" + a, x.ofAnswer(a, 0));
            see("place-" + a, x.ofAnswer(a, 1));
        }
        // With a growth of 1 it takes as many months as the weight.
        x.grow(1);
        for (int p = 0; p < x.many(1); p++) {
            see("weight-" + p, x.months(1 << p));
        }
    }

    private void seeSheet(int k) {
        for (int lane = 0; lane < 3; lane++) {
            int i = 0;
            while (i <= 60 && x.cell(k, i, lane) != LieNights.LOST) {
                see("cell-" + k + "-" + i, x.cell(k, i, lane));
                i++;
            }
            // INDEX behind the last cell of a row of this lane; CAST or NULL at once of any other.
            see("end-" + k + "-" + lane, x.fault() * 100 + i);
        }
    }
}
