/** Promises 27 to 30: the forecasts. */
public final class ForecastsTest {

    public static void main(String[] args) {
        promises27To29();
        promise27OfOneAsleep();
        promise30SavedShare();
        promise30WithoutSaving();
        noSuchFollower();
        Due.end("ForecastsTest");
    }

    private static void forecast(StreetEditions x, int follower, int answer, int cost, int wrong) {
        String before = Seen.all(x);
        Due.is("answer(" + follower + ")", x.answer(follower), answer);
        Due.is("costToCome(" + follower + ")", x.costToCome(follower), cost);
        Due.is("wrong(" + follower + ")", x.wrong(follower), wrong);
        Due.is("everything after forecasts", Seen.all(x), before);
    }

    private static void promises27To29() {
        StreetEditions x = new StreetEditions();
        forecast(x, 0, 2, 1, StreetEditions.NONE);
        Do.texts(x, "+1;+2;p");
        forecast(x, 0, 2, 3, StreetEditions.NONE);
        Do.texts(x, "r0;r1;r2;+3");
        forecast(x, 0, 0, 0, 0);
        Do.texts(x, "p;r1;-1;+4;p");
        forecast(x, 0, 2, 4, 3);
        forecast(x, 1, 1, 3, 2);
        x.renumber(2);
        forecast(x, 1, 0, 0, 2);
        forecast(x, 0, 2, 4, 3);
        x.renumber(0);
        forecast(x, 0, 3, 0, 3);
        forecast(x, 3, 2, 4, StreetEditions.NONE);
    }

    private static void promise27OfOneAsleep() {
        StreetEditions x = new StreetEditions();
        Do.texts(x, "+1;+2;+3;p;r0;s0;s1;+4;p");
        forecast(x, 0, 1, 2, 1);
        forecast(x, 1, 2, 5, StreetEditions.NONE);
        Due.is("asleep as before", x.attention(0), 2);
    }

    private static void promise30SavedShare() {
        StreetEditions x = new StreetEditions();
        Do.texts(x, "+1;+2;+3;p;r0");
        Due.is("a whole list saves nothing", x.savedShare(), 0.0);
        Do.texts(x, "+4;p;r0");
        Due.is("one difference", x.savedShare(), 1.0 - 6.0 / 9.0);
        Do.texts(x, "r3;n0");
        Due.is("another follower", x.savedShare(), 1.0 - 11.0 / 14.0);
        x.refresh(0);
        x.throwAway(0);
        Due.is("refused, and thrown away", x.savedShare(), 1.0 - 11.0 / 14.0);
        x.refresh(0);
        Due.is("a whole list again", x.savedShare(), 1.0 - 16.0 / 19.0);
        x.undo();
        Due.is("undone", x.savedShare(), 1.0 - 11.0 / 14.0);
        Do.texts(x, "r1;r2");
        Due.is("all four", x.savedShare(), 1.0 - 21.0 / 24.0);
    }

    private static void promise30WithoutSaving() {
        StreetEditions x = new StreetEditions();
        Do.texts(x, "+1;p");
        Due.is("nothing counted", x.savedShare(), 0.0);
        Do.texts(x, "r0;-1;+2;p;r0");
        Due.is("a whole list for the same price is no difference", x.costs(0), 4);
        Due.is("nothing saved", x.savedShare(), 0.0);
    }

    private static void noSuchFollower() {
        StreetEditions x = new StreetEditions();
        for (int f : new int[] {-1, 4, Integer.MIN_VALUE, Integer.MAX_VALUE}) {
            Due.noSuch(x, "answer(" + f + ")", () -> x.answer(f));
            Due.noSuch(x, "costToCome(" + f + ")", () -> x.costToCome(f));
            Due.noSuch(x, "wrong(" + f + ")", () -> x.wrong(f));
        }
    }
}
