/**
 * Everything that can be told of an object by taking it apart: also what no asking call tells, such as how
 * many differences are kept, what they change, the saved states and the buffer.
 */
final class Deep {

    interface Maker {
        StreetEditions make();
    }

    private Deep() {
    }

    /** Takes one object apart for each number of undone calls, as each is made alike. */
    static String of(Maker maker) {
        StringBuilder seen = new StringBuilder();
        for (int undone = 0; undone <= 7; undone++) {
            StreetEditions x = maker.make();
            seen.append("\nundone ").append(undone);
            for (int u = 0; u < undone; u++) {
                seen.append(", undo ").append(Due.outcome(x::undo));
            }
            seen.append(", ").append(Seen.all(x));
            refreshAndPublish(x, seen);
        }
        StreetEditions x = maker.make();
        seen.append("\nrun ").append(Due.outcome(x::run)).append(", ").append(Seen.all(x));
        seen.append(", clearText ").append(x.clearText());
        return seen.toString();
    }

    private static void refreshAndPublish(StreetEditions x, StringBuilder seen) {
        for (int f = 0; f < 4; f++) {
            int follower = f;
            seen.append(", wake ").append(Due.outcome(() -> x.wake(follower)));
            seen.append(", refresh ").append(x.refresh(follower)).append(", ").append(Seen.state(x));
        }
        for (int e = 0; e < 7; e++) {
            Do.publish(x, 1);
            seen.append(", ").append(Seen.state(x));
        }
        seen.append(", clearText ").append(x.clearText());
    }
}
