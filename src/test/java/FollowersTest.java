/** Promises 16 to 26: the followers. */
public final class FollowersTest {

    private static final int[] NO_FOLLOWERS = {-1, 4, 5, Integer.MIN_VALUE, Integer.MAX_VALUE};

    public static void main(String[] args) {
        promise16WholeListWithoutAList();
        promise16Nothing();
        promise16Differences();
        promise16DifferencesFromTheMiddle();
        promise16DifferencesAfterOthersWereDropped();
        promise16SixDifferences();
        promise16DearDifferences();
        promise16NoDifferenceKept();
        promise16Refused();
        promise16DifferencesOnAWrongList();
        promise16Throws();
        promise17RefreshAll();
        promise18Sleep();
        promise19Wake();
        promise20ThrowAway();
        promise21To26();
        promise24IsRight();
        noSuchFollower();
        Due.end("FollowersTest");
    }

    private static void refreshes(StreetEditions x, int follower, int answer, int edition, int costs) {
        Due.is("refresh(" + follower + ")", x.refresh(follower), answer);
        Due.is("editionOf then", x.editionOf(follower), edition);
        Due.is("costs then", x.costs(follower), costs);
        Due.is("attention then", x.attention(follower), 0);
    }

    private static void promise16WholeListWithoutAList() {
        StreetEditions x = new StreetEditions();
        refreshes(x, 0, 2, 0, 1);
        Due.is("the empty list", x.streets(0), 0);
        Due.is("refresh is undoable", x.savedStates(), 1);
        Do.texts(x, "+1;+2;+29;p;+3");
        refreshes(x, 3, 2, 1, 4);
        Due.is("streets", x.streets(3), 3);
        Due.is("has the last street", x.has(3, 29), true);
        Due.is("has none of the draft", x.has(3, 3), false);
    }

    private static void promise16Nothing() {
        StreetEditions x = new StreetEditions();
        Do.texts(x, "+1;p;r0;+2;p;n1");
        Due.is("a notice", x.attention(0), 1);
        refreshes(x, 0, 0, 1, 2);
        Due.is("the number alone matters", x.streets(0), 1);
        Due.is("so the list is wrong", x.wrong(0), 1);
        Due.is("undoable also without a change", x.savedStates(), 2);
    }

    private static void promise16Differences() {
        StreetEditions x = new StreetEditions();
        Do.texts(x, "+1;+2;+3;+4;+5;+6;+7;+8;p;r0");
        Do.texts(x, "-1;+9;p;+1;-2;+10;p");
        Due.is("cost of the first", x.cost(1), 3);
        Due.is("cost of the second", x.cost(2), 4);
        refreshes(x, 0, 1, 3, 9 + 7);
        Due.is("right", x.isRight(0), true);
        Due.is("has(1), which went and came", x.has(0, 1), true);
        Due.is("has(2)", x.has(0, 2), false);
        Due.is("has(9)", x.has(0, 9), true);
        Due.is("streets", x.streets(0), 9);
    }

    private static void promise16DifferencesFromTheMiddle() {
        StreetEditions x = new StreetEditions();
        Do.texts(x, "n14;+1;+2;+3;+4;p;+5;p;r2;+6;p;-1;+7;p");
        Due.is("kept", x.kept(), 3);
        Due.is("the number went round", x.edition(), 2);
        refreshes(x, 2, 1, 2, 6 + 2 + 3);
        Due.is("right", x.isRight(2), true);
    }

    private static void promise16DifferencesAfterOthersWereDropped() {
        StreetEditions x = new StreetEditions();
        Do.texts(x, "+1;+2;+3;+4;+5;+6;+7;+8;+9;p;-1;p;r0;r1;-2;+10;p");
        Do.texts(x, "-3;+11;p;-4;+2;p");
        Due.is("two were dropped", x.from(0), 2);
        refreshes(x, 0, 1, 5, 9 + 9);
        Due.is("right", x.isRight(0), true);
        x.setKeep(2);
        refreshes(x, 1, 2, 5, 9 + 9);
        Do.texts(x, "-5;-6;p");
        refreshes(x, 1, 1, 6, 18 + 3);
        Due.is("right after setKeep", x.isRight(1), true);
    }

    private static void promise16SixDifferences() {
        StreetEditions x = new StreetEditions();
        x.setKeep(6);
        Do.texts(x, "n12;+0;+1;+2;+3;+4;+5;+6;+7;+8;+9;+10;+11;p;r0;r1");
        Do.texts(x, "-0;p;+0;p;-1;p;-2;p;+1;p;+29;p");
        Due.is("all six lead away from the follower's edition", x.from(0), 13);
        refreshes(x, 0, 1, 3, 13 + 12);
        Due.is("right", x.isRight(0), true);
        Do.texts(x, "+28;p");
        refreshes(x, 1, 2, 4, 13 + 14);
        Due.is("right with the whole list", x.isRight(1), true);
    }

    private static void promise16DearDifferences() {
        StreetEditions x = new StreetEditions();
        Do.texts(x, "+1;+2;p;r0;r1;-1;+3;p");
        Due.is("the difference costs as much as the list", x.cost(1), 1 + x.published());
        refreshes(x, 0, 1, 2, 3 + 3);
        Do.texts(x, "-3;p");
        Due.is("the differences cost more", x.cost(1) + x.cost(2), 5);
        refreshes(x, 1, 2, 3, 3 + 2);
        Due.is("right", x.isRight(1), true);
        refreshes(x, 0, 1, 3, 6 + 2);
    }

    private static void promise16NoDifferenceKept() {
        StreetEditions x = new StreetEditions();
        Do.texts(x, "+1;+2;+3;+4;+5;+6;+7;+8;p;r0;r1");
        x.setKeep(1);
        Do.texts(x, "+9;p;+10;p");
        refreshes(x, 0, 2, 3, 9 + 11);
        x.renumber(8);
        refreshes(x, 1, 2, 8, 9 + 11);
    }

    private static void promise16Refused() {
        StreetEditions x = new StreetEditions();
        Do.texts(x, "+1;p;r0;+2;p;n9");
        Due.is("8 ahead is older", x.answer(0), 3);
        Due.is("a notice", x.attention(0), 1);
        refreshes(x, 0, 3, 1, 2);
        Due.is("the list stays", x.streets(0), 1);
        x.renumber(0);
        refreshes(x, 0, 3, 1, 2);
        x.renumber(8);
        refreshes(x, 0, 2, 8, 2 + 3);
        x.renumber(7);
        refreshes(x, 0, 3, 8, 5);
    }

    private static void promise16DifferencesOnAWrongList() {
        StreetEditions x = new StreetEditions();
        Do.texts(x, "+1;+2;+3;+4;p;r0;n0;-2;+5;+6;p;n0;-1;+7;p;n2");
        Do.texts(x, "n0;-3;+8;p;+9;p");
        Due.is("kept from the number of the follower", x.from(1), 1);
        refreshes(x, 0, 1, 2, 5 + 2);
        Due.is("still without the streets of other editions", x.has(0, 5), false);
        Due.is("with the street that was added", x.has(0, 9), true);
        Due.is("with a street that was crossed out before", x.has(0, 1), true);
        Due.is("not right", x.isRight(0), false);
        // has 1, 2, 3, 4, 9; published is 4, 5, 6, 7, 8, 9
        Due.is("wrong", x.wrong(0), 7);
    }

    private static void promise16Throws() {
        StreetEditions x = new StreetEditions();
        x.sleep(1);
        Due.notNow(x, "refresh(1) asleep", () -> x.refresh(1));
        for (int f : NO_FOLLOWERS) {
            Due.noSuch(x, "refresh(" + f + ")", () -> x.refresh(f));
        }
    }

    private static void promise17RefreshAll() {
        StreetEditions x = new StreetEditions();
        Due.is("refreshAll without notices", x.refreshAll(), 0);
        Due.is("undoable also then", x.savedStates(), 1);
        Due.is("no one has a list", x.streets(0), StreetEditions.NONE);
        Do.texts(x, "+1;p;s1;r2;+2");
        Due.is("refreshAll", x.refreshAll(), 2);
        Due.is("0 refreshed", x.streets(0), 1);
        Due.is("1 sleeps with a notice", x.attention(1), 3);
        Due.is("1 did not refresh", x.streets(1), StreetEditions.NONE);
        Due.is("2 had no notice", x.costs(2), 2);
        Due.is("3 refreshed", x.editionOf(3), 1);
        Due.is("the notices are gone", x.attention(3), 0);
        x.wake(1);
        Due.is("refreshAll of the one who woke", x.refreshAll(), 1);
        Do.texts(x, "n0");
        Due.is("refused ones count", x.refreshAll(), 4);
        Due.is("refused", x.editionOf(0), 1);
        Due.is("no notice after that", x.attention(0), 0);
    }

    private static void promise18Sleep() {
        StreetEditions x = new StreetEditions();
        Do.texts(x, "+1;p");
        Due.is("sleep(0)", x.sleep(0), 1);
        Due.is("a notice stays", x.attention(0), 3);
        Due.is("sleep is undoable", x.savedStates(), 2);
        Due.is("sleep(3)", x.sleep(3), 2);
        Due.notNow(x, "sleep(3) again", () -> x.sleep(3));
        Due.is("sleep(1)", x.sleep(1), 3);
        Due.is("sleep(2)", x.sleep(2), 4);
        for (int f : NO_FOLLOWERS) {
            Due.noSuch(x, "sleep(" + f + ")", () -> x.sleep(f));
        }
    }

    private static void promise19Wake() {
        StreetEditions x = new StreetEditions();
        Due.notNow(x, "wake(0) awake", () -> x.wake(0));
        Do.texts(x, "s0;+1;p;s1");
        Due.is("wake(0)", x.wake(0), 1);
        Due.is("no notice of what was missed", x.attention(0), 0);
        Due.is("wake is undoable", x.savedStates(), 2);
        Due.is("wake(1)", x.wake(1), 0);
        Due.is("the notice from before", x.attention(1), 1);
        Due.notNow(x, "wake(1) again", () -> x.wake(1));
        for (int f : NO_FOLLOWERS) {
            Due.noSuch(x, "wake(" + f + ")", () -> x.wake(f));
        }
    }

    private static void promise20ThrowAway() {
        StreetEditions x = new StreetEditions();
        Due.is("throwAway(0) without a list", x.throwAway(0), StreetEditions.NONE);
        Due.is("undoable also then", x.savedStates(), 1);
        Do.texts(x, "+1;+2;p;r0;r1;+3;p;s0");
        Due.is("throwAway(0), asleep", x.throwAway(0), 2);
        Due.is("editionOf(0)", x.editionOf(0), StreetEditions.NONE);
        Due.is("streets(0)", x.streets(0), StreetEditions.NONE);
        for (int s = 0; s < 30; s++) {
            Due.is("has(0, " + s + ")", x.has(0, s), false);
        }
        Due.is("wrong(0)", x.wrong(0), StreetEditions.NONE);
        Due.is("isRight(0)", x.isRight(0), false);
        Due.is("asleep and with a notice as before", x.attention(0), 3);
        Due.is("the costs stay", x.costs(0), 3);
        Due.is("the others keep theirs", x.streets(1), 2);
        Due.is("throwAway(0) again", x.throwAway(0), StreetEditions.NONE);
        x.wake(0);
        refreshes(x, 0, 2, 2, 3 + 4);
        for (int f : NO_FOLLOWERS) {
            Due.noSuch(x, "throwAway(" + f + ")", () -> x.throwAway(f));
        }
    }

    private static void promise21To26() {
        StreetEditions x = new StreetEditions();
        Do.texts(x, "+0;+29;p;r1;+5;p;s1;s2");
        Due.is("editionOf(1)", x.editionOf(1), 1);
        Due.is("editionOf(0)", x.editionOf(0), StreetEditions.NONE);
        Due.is("streets(1)", x.streets(1), 2);
        Due.is("streets(0)", x.streets(0), StreetEditions.NONE);
        Due.is("has(1, 0)", x.has(1, 0), true);
        Due.is("has(1, 29)", x.has(1, 29), true);
        Due.is("has(1, 5)", x.has(1, 5), false);
        Due.is("has(0, 0) without a list", x.has(0, 0), false);
        for (int s : new int[] {-1, 30, 32, Integer.MIN_VALUE, Integer.MAX_VALUE}) {
            Due.noSuch(x, "has(1, " + s + ")", () -> x.has(1, s));
            Due.noSuch(x, "has(4, " + s + ")", () -> x.has(4, s));
        }
        Due.is("attention(1)", x.attention(1), 3);
        Due.is("attention(0)", x.attention(0), 1);
        x.refresh(0);
        Due.is("attention(0) then", x.attention(0), 0);
        x.sleep(0);
        Due.is("attention(0), asleep", x.attention(0), 2);
        Due.is("costs(0)", x.costs(0), 4);
        Due.is("costs(1)", x.costs(1), 3);
        Due.is("costs(2)", x.costs(2), 0);
    }

    private static void promise24IsRight() {
        StreetEditions x = new StreetEditions();
        Due.is("isRight(0) without a list", x.isRight(0), false);
        Do.texts(x, "r0;r1;+1;p;r1");
        Due.is("isRight(0)", x.isRight(0), false);
        Due.is("isRight(1)", x.isRight(1), true);
        Do.texts(x, "n5;+2");
        Due.is("the number does not matter, nor the draft", x.isRight(1), true);
        Do.texts(x, "-2;-1;p");
        Due.is("an empty list is right too", x.isRight(0), true);
        Due.is("a list with one too many is not", x.isRight(1), false);
    }

    private static void noSuchFollower() {
        StreetEditions x = new StreetEditions();
        for (int f : NO_FOLLOWERS) {
            Due.noSuch(x, "editionOf(" + f + ")", () -> x.editionOf(f));
            Due.noSuch(x, "streets(" + f + ")", () -> x.streets(f));
            Due.noSuch(x, "has(" + f + ", 0)", () -> x.has(f, 0));
            Due.noSuch(x, "isRight(" + f + ")", () -> x.isRight(f));
            Due.noSuch(x, "attention(" + f + ")", () -> x.attention(f));
            Due.noSuch(x, "costs(" + f + ")", () -> x.costs(f));
        }
    }
}
