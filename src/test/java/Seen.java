import java.util.ArrayList;
import java.util.Collections;
import java.util.List;

/** What the calls that change nothing tell of an object; in few calls, as an object has but 512. */
final class Seen {

    private Seen() {
    }

    /** Everything that can be seen without a change, the buffer's first error included. */
    static String all(StreetEditions x) {
        return state(x) + ", firstError " + x.firstError() + ", savedStates " + x.savedStates();
    }

    /** Everything of the state that can be seen without a change: the digest leaves out the share alone. */
    static String state(StreetEditions x) {
        return "digest " + x.digest() + ", savedShare " + x.savedShare();
    }

    /** The digest, put together from what the other calls answer. */
    static long digest(StreetEditions x) {
        List<Integer> values = new ArrayList<>();
        Collections.addAll(values, x.edition(), x.draft(), x.published(), x.pending(), x.kept());
        for (int d = 0; d < x.kept(); d++) {
            Collections.addAll(values, x.from(d), x.cost(d));
        }
        for (int f = 0; f < 4; f++) {
            Collections.addAll(values, x.editionOf(f), x.streets(f), x.attention(f), x.costs(f), x.answer(f),
                    x.costToCome(f), x.wrong(f));
        }
        for (int s = 0; s < 30; s++) {
            values.add(x.where(s));
            for (int f = 0; f < 4; f++) {
                values.add(x.has(f, s) ? 1 : 0);
            }
        }
        long hash = 4691;
        for (int v : values) {
            hash = 31 * hash + v;
        }
        return hash;
    }
}
