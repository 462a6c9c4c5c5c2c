/** The ranges, the "Returns" and the "Throws" of promises 16 to 30, with what is just inside and just outside. */
public final class BoundsOfFollowersTest {

    private static final int NONE = StreetEditions.NONE;
    private static final int[] NO_FOLLOWERS = {-1, 4, Integer.MIN_VALUE, Integer.MAX_VALUE};

    private interface Asked {
        Object of(StreetEditions x, int follower);
    }

    public static void main(String[] args) {
        promises16To29Followers();
        promise16ReturnsTheAnswer();
        promise16ThrowsIfTheFollowerIsAsleep();
        promise17AwakeAndWithANotice();
        promise17ReturnsHowManyRefresh();
        promise18ANoticeStays();
        promise18ReturnsHowManyAreAsleep();
        promise18ThrowsIfTheFollowerIsAsleep();
        promise19WithoutANoticeOfWhatWasMissed();
        promise19ReturnsHowManyAreAsleep();
        promise19ThrowsIfTheFollowerIsAwake();
        promise20ReturnsTheStreetsThatItHad();
        promise20HasNoListThen();
        promise21NoneWithoutAList();
        promise22NoneWithoutAList();
        promise23TrueIfItIs();
        promise23Streets();
        promise24TrueIfRight();
        promise25FourNumbers();
        promise26CostsSoFar();
        promise27TheAnswerThatAFollowerWouldGet();
        promise27AlsoOneWhoIsAsleep();
        promise28TheCostThatWouldBeCounted();
        promise28NoCostWithTheAnswers0And3();
        promise29StreetsThatAreWrong();
        promise30NoCosts();
        promise30WholeListsAlone();
        promise30Differences();
        promise30WholeListsInPlaceOfDifferences();
        Due.end("BoundsOfFollowersTest");
    }

    private static void forFollowers(String name, Deep.Maker maker, Asked asked) {
        for (int f : new int[] {0, 3}) {
            StreetEditions x = maker.make();
            Object got = Due.outcome(() -> asked.of(x, f));
            Due.is(name + "(" + f + ") answers", got instanceof Integer || got instanceof Boolean, true);
        }
        StreetEditions x = maker.make();
        for (int f : NO_FOLLOWERS) {
            Due.noSuch(x, name + "(" + f + ")", () -> asked.of(x, f));
        }
    }

    /** "0 to 3"; "if there is no such follower" */
    private static void promises16To29Followers() {
        Deep.Maker awake = () -> Do.after("+0;+1;p;r0;r3;+2;p");
        Deep.Maker asleep = () -> Do.after("+0;+1;p;r0;r3;+2;p;s0;s1;s2;s3");
        forFollowers("refresh", awake, (x, f) -> x.refresh(f));
        forFollowers("sleep", awake, (x, f) -> x.sleep(f));
        forFollowers("wake", asleep, (x, f) -> x.wake(f));
        forFollowers("throwAway", awake, (x, f) -> x.throwAway(f));
        for (Deep.Maker maker : new Deep.Maker[] {awake, asleep, StreetEditions::new}) {
            forFollowers("editionOf", maker, (x, f) -> x.editionOf(f));
            forFollowers("streets", maker, (x, f) -> x.streets(f));
            forFollowers("has of 0", maker, (x, f) -> x.has(f, 0));
            forFollowers("has of 29", maker, (x, f) -> x.has(f, 29));
            forFollowers("isRight", maker, (x, f) -> x.isRight(f));
            forFollowers("attention", maker, (x, f) -> x.attention(f));
            forFollowers("costs", maker, (x, f) -> x.costs(f));
            forFollowers("answer", maker, (x, f) -> x.answer(f));
            forFollowers("costToCome", maker, (x, f) -> x.costToCome(f));
            forFollowers("wrong", maker, (x, f) -> x.wrong(f));
        }
    }

    /** "Returns the answer, 0 to 3." */
    private static void promise16ReturnsTheAnswer() {
        for (int f = 0; f < 4; f++) {
            StreetEditions x = Do.after("+1;+2;+3;p");
            Due.is("the whole list for " + f, x.refresh(f), 2);
            Due.is("nothing for " + f, x.refresh(f), 0);
            Do.texts(x, "+4;p");
            Due.is("differences for " + f, x.refresh(f), 1);
            x.renumber(1);
            Due.is("refused to " + f, x.refresh(f), 3);
        }
    }

    /** "if the follower is asleep" */
    private static void promise16ThrowsIfTheFollowerIsAsleep() {
        for (int follower = 0; follower < 4; follower++) {
            int f = follower;
            StreetEditions x = Do.after("+1;p");
            x.sleep((f + 1) % 4);
            Due.is("refresh of one awake", x.refresh(f), 2);
            x.sleep(f);
            Due.notNow(x, "refresh of one asleep", () -> x.refresh(f));
            x.wake(f);
            Due.is("refresh of one awake again", x.refresh(f), 0);
        }
    }

    /** "Lets all followers refresh who are awake and have a notice" */
    private static void promise17AwakeAndWithANotice() {
        for (int f = 0; f < 4; f++) {
            StreetEditions x = new StreetEditions();
            x.sleep((f + 1) % 4);
            Do.texts(x, "+1;p");
            x.refresh((f + 2) % 4);
            x.sleep((f + 3) % 4);
            Do.texts(x, "+2");
            Due.is("refreshAll", x.refreshAll(), 1);
            Due.is("the one awake with a notice", x.streets(f), 1);
            Due.is("their notice is gone", x.attention(f), 0);
            Due.is("one asleep without a notice", x.streets((f + 1) % 4), NONE);
            Due.is("one awake without a notice", x.costs((f + 2) % 4), 2);
            Due.is("one asleep with a notice", x.streets((f + 3) % 4), NONE);
            Due.is("the notice of one asleep stays", x.attention((f + 3) % 4), 3);
        }
        StreetEditions x = Do.after("+1;p;r0;-1;+2;p");
        x.throwAway(1);
        Due.is("refreshAll does what refresh does", x.refreshAll(), 4);
        Due.is("costs of 0", x.costs(0), 4);
        Due.is("costs of 1", x.costs(1), 2);
    }

    /** "Returns the number of followers who refresh." */
    private static void promise17ReturnsHowManyRefresh() {
        Due.is("no one has a notice", new StreetEditions().refreshAll(), 0);
        Due.is("no one is awake", Do.after("+1;p;s0;s1;s2;s3").refreshAll(), 0);
        Due.is("one", Do.after("+1;p;s0;s1;s2").refreshAll(), 1);
        Due.is("three", Do.after("+1;p;r3").refreshAll(), 3);
        StreetEditions x = Do.after("+1;p");
        Due.is("four", x.refreshAll(), 4);
        Due.is("none again", x.refreshAll(), 0);
        x.renumber(0);
        Due.is("four who are refused", x.refreshAll(), 4);
        x.renumber(1);
        Due.is("four who get nothing", x.refreshAll(), 4);
        Due.is("none at the end", x.refreshAll(), 0);
    }

    /** "A follower falls asleep; a notice stays." */
    private static void promise18ANoticeStays() {
        StreetEditions with = Do.after("+1;p;s0");
        Due.is("asleep with a notice", with.attention(0), 3);
        Due.is("awake as before", with.attention(1), 1);
        StreetEditions without = Do.after("+1;p;r0;s0");
        Due.is("asleep without a notice", without.attention(0), 2);
        Do.texts(with, "+2;p;n9");
        Due.is("asleep with a notice from before", with.attention(0), 3);
        Do.texts(without, "+2;p;n9");
        Due.is("asleep without a notice of these", without.attention(0), 2);
    }

    /** "Returns the number of followers who are asleep then." */
    private static void promise18ReturnsHowManyAreAsleep() {
        StreetEditions x = new StreetEditions();
        int[] order = {3, 0, 2, 1};
        for (int i = 0; i < 4; i++) {
            Due.is("sleep(" + order[i] + ")", x.sleep(order[i]), i + 1);
        }
        x.wake(2);
        Due.is("sleep(2) again", x.sleep(2), 4);
    }

    /** "if the follower is asleep" */
    private static void promise18ThrowsIfTheFollowerIsAsleep() {
        for (int follower = 0; follower < 4; follower++) {
            int f = follower;
            StreetEditions x = new StreetEditions();
            x.sleep((f + 3) % 4);
            Due.is("sleep of one awake", x.sleep(f), 2);
            Due.notNow(x, "sleep of one asleep", () -> x.sleep(f));
            x.wake(f);
            Due.is("sleep of one awake again", x.sleep(f), 2);
        }
    }

    /** "A follower wakes up (without a notice of what was missed)." */
    private static void promise19WithoutANoticeOfWhatWasMissed() {
        StreetEditions missed = Do.after("s0;+1;p;n9;w0");
        Due.is("awake without a notice", missed.attention(0), 0);
        Due.is("what was missed is not brought", missed.streets(0), NONE);
        Do.texts(missed, "+2;p");
        Due.is("a notice of what comes then", missed.attention(0), 1);
        StreetEditions before = Do.after("+1;p;s0;+2;p;w0");
        Due.is("awake with the notice from before", before.attention(0), 1);
        Due.is("others stay as they are", before.attention(1), 1);
    }

    /** "Returns the number of followers who are asleep then." */
    private static void promise19ReturnsHowManyAreAsleep() {
        StreetEditions x = Do.after("s0;s1;s2;s3");
        int[] order = {1, 3, 0, 2};
        for (int i = 0; i < 4; i++) {
            Due.is("wake(" + order[i] + ")", x.wake(order[i]), 3 - i);
        }
    }

    /** "if the follower is awake" */
    private static void promise19ThrowsIfTheFollowerIsAwake() {
        for (int follower = 0; follower < 4; follower++) {
            int f = follower;
            StreetEditions x = new StreetEditions();
            x.sleep((f + 3) % 4);
            Due.notNow(x, "wake of one awake", () -> x.wake(f));
            x.sleep(f);
            Due.is("wake of one asleep", x.wake(f), 1);
            Due.notNow(x, "wake of one awake again", () -> x.wake(f));
        }
    }

    /** "Returns the number of streets that it had; NONE if there was no list." */
    private static void promise20ReturnsTheStreetsThatItHad() {
        for (int f = 0; f < 4; f++) {
            StreetEditions x = new StreetEditions();
            Due.is("no list", x.throwAway(f), NONE);
            x.refresh(f);
            Due.is("an empty list", x.throwAway(f), 0);
            Due.is("no list again", x.throwAway(f), NONE);
            Do.addFirst(x, 30);
            x.publish();
            x.refresh(f);
            x.sleep(f);
            x.crossOut(0);
            x.publish();
            Due.is("all streets, asleep", x.throwAway(f), 30);
            Due.is("no list, asleep", x.throwAway(f), NONE);
        }
    }

    /** "A follower throws the list away, and has no list then." */
    private static void promise20HasNoListThen() {
        StreetEditions x = Do.after("+0;+29;p;r0;r1;+1;p");
        x.throwAway(0);
        Due.is("editionOf", x.editionOf(0), NONE);
        Due.is("streets", x.streets(0), NONE);
        Due.is("has(0, 0)", x.has(0, 0), false);
        Due.is("has(0, 29)", x.has(0, 29), false);
        Due.is("isRight", x.isRight(0), false);
        Due.is("wrong", x.wrong(0), NONE);
        Due.is("answer", x.answer(0), 2);
        Due.is("costToCome", x.costToCome(0), 4);
        Due.is("a notice stays", x.attention(0), 1);
        Due.is("costs stay", x.costs(0), 3);
        Due.is("the list of another one", x.streets(1), 2);
        Due.is("refreshAll brings a list", x.refreshAll(), 4);
        Due.is("a list again", x.streets(0), 3);
        Due.is("has(0, 29) again", x.has(0, 29), true);
    }

    /** "Returns the edition number; NONE without a list." */
    private static void promise21NoneWithoutAList() {
        StreetEditions x = new StreetEditions();
        Due.is("without a list", x.editionOf(0), NONE);
        x.refresh(0);
        Due.is("with an empty list", x.editionOf(0), 0);
        x.renumber(15);
        Due.is("that of the follower, not of the printer", x.editionOf(0), 0);
        x.refresh(1);
        Due.is("edition 15", x.editionOf(1), 15);
        x.throwAway(1);
        Due.is("without a list again", x.editionOf(1), NONE);
    }

    /** "Returns the number of streets; NONE without a list." */
    private static void promise22NoneWithoutAList() {
        StreetEditions x = new StreetEditions();
        Due.is("without a list", x.streets(0), NONE);
        x.refresh(0);
        Due.is("with an empty list", x.streets(0), 0);
        Do.addFirst(x, 30);
        x.publish();
        Due.is("that of the follower, not of the printer", x.streets(0), 0);
        x.refresh(0);
        Due.is("all streets", x.streets(0), 30);
        x.throwAway(0);
        Due.is("without a list again", x.streets(0), NONE);
    }

    /** "Returns true if it is." */
    private static void promise23TrueIfItIs() {
        StreetEditions x = Do.after("+0;+29;p;r0;-0;+1;p");
        for (int s = 0; s < 30; s++) {
            Due.is("has(0, " + s + ")", x.has(0, s), s == 0 || s == 29);
            Due.is("has(1, " + s + ") without a list", x.has(1, s), false);
        }
        x.refresh(0);
        for (int s = 0; s < 30; s++) {
            Due.is("has(0, " + s + ") then", x.has(0, s), s == 1 || s == 29);
        }
    }

    /** "0 to 29"; "if there is no such follower or street" */
    private static void promise23Streets() {
        StreetEditions x = Do.withPublished(30);
        x.refresh(0);
        x.refresh(3);
        for (int f : new int[] {0, 3}) {
            Due.is("has(" + f + ", 0)", x.has(f, 0), true);
            Due.is("has(" + f + ", 29)", x.has(f, 29), true);
            for (int s : new int[] {-1, 30, -32, 32, Integer.MIN_VALUE, Integer.MAX_VALUE}) {
                Due.noSuch(x, "has(" + f + ", " + s + ")", () -> x.has(f, s));
            }
        }
        for (int s : new int[] {-1, 30}) {
            Due.noSuch(x, "has(1, " + s + ") without a list", () -> x.has(1, s));
            Due.noSuch(x, "has(-1, " + s + ")", () -> x.has(-1, s));
            Due.noSuch(x, "has(4, " + s + ")", () -> x.has(4, s));
        }
    }

    /** "Returns true if the follower is right." */
    private static void promise24TrueIfRight() {
        StreetEditions x = new StreetEditions();
        Due.is("without a list", x.isRight(0), false);
        x.refresh(0);
        Due.is("with the empty list", x.isRight(0), true);
        x.add(29);
        Due.is("as long as it is published", x.isRight(0), true);
        x.publish();
        Due.is("with one street too few", x.isRight(0), false);
        x.refresh(0);
        x.sleep(0);
        Due.is("asleep", x.isRight(0), true);
        x.crossOut(29);
        x.publish();
        Due.is("with one street too many", x.isRight(0), false);
    }

    /** "Returns 0 awake without a notice, 1 awake with a notice, 2 asleep without a notice, 3 asleep with a
     *  notice." */
    private static void promise25FourNumbers() {
        for (int f = 0; f < 4; f++) {
            StreetEditions x = new StreetEditions();
            Due.is("awake without a notice", x.attention(f), 0);
            x.sleep(f);
            Due.is("asleep without a notice", x.attention(f), 2);
            x.wake(f);
            x.renumber(1);
            Due.is("awake with a notice", x.attention(f), 1);
            x.sleep(f);
            Due.is("asleep with a notice", x.attention(f), 3);
            x.wake(f);
            x.refresh(f);
            Due.is("awake without a notice again", x.attention(f), 0);
        }
    }

    /** "Returns the costs so far." */
    private static void promise26CostsSoFar() {
        StreetEditions x = new StreetEditions();
        Due.is("none at first", x.costs(0), 0);
        x.refresh(0);
        Due.is("the least whole list", x.costs(0), 1);
        x.add(29);
        x.publish();
        x.refresh(0);
        Due.is("and a difference", x.costs(0), 1 + 2);
        x.refresh(0);
        Due.is("and nothing", x.costs(0), 1 + 2);
        x.throwAway(0);
        Due.is("without the list", x.costs(0), 1 + 2);
        Do.addFirst(x, 29);
        x.publish();
        x.refresh(0);
        Due.is("and the longest whole list", x.costs(0), 1 + 2 + 31);
        x.renumber(15);
        x.refresh(0);
        Due.is("and refused", x.costs(0), 1 + 2 + 31);
        Due.is("another one has none", x.costs(1), 0);
    }

    private static void predictsRefresh(String what, StreetEditions x, int answer, int cost) {
        String before = Seen.all(x);
        Due.is("answer, " + what, x.answer(0), answer);
        Due.is("costToCome, " + what, x.costToCome(0), cost);
        Due.is("everything after both, " + what, Seen.all(x), before);
        int costs = x.costs(0);
        Due.is("refresh, " + what, x.refresh(0), answer);
        Due.is("what it costs, " + what, x.costs(0) - costs, cost);
    }

    /** "Predicts the answer that a follower would get"; "Returns the answer, 0 to 3." */
    private static void promise27TheAnswerThatAFollowerWouldGet() {
        predictsRefresh("nothing", Do.after("r0"), 0, 0);
        predictsRefresh("differences", Do.after("+1;+2;p;r0;+3;p"), 1, 2);
        predictsRefresh("the whole list", Do.after("+1;+2;p"), 2, 3);
        predictsRefresh("refused", Do.after("+1;+2;p;r0;n0"), 3, 0);
        predictsRefresh("one who has no notice", Do.after("+1;p;r0;s0;+2;+3;p;w0"), 1, 3);
        predictsRefresh("with more to come in the draft", Do.after("+1;+2;p;r0;+3;p;+4"), 1, 2);
    }

    /** "(also one who is asleep, as if awake)" */
    private static void promise27AlsoOneWhoIsAsleep() {
        String[] before = {"r0", "+1;+2;p;r0;+3;p", "+1;+2;p", "+1;+2;p;r0;n0"};
        for (int answer = 0; answer < 4; answer++) {
            StreetEditions x = Do.after(before[answer], "s0");
            int attention = x.attention(0);
            Due.is("answer to one asleep", x.answer(0), answer);
            Due.is("they go on sleeping", x.attention(0), attention);
            x.wake(0);
            Due.is("answer to one awake", x.refresh(0), answer);
        }
    }

    /** "Returns the cost that would be counted" */
    private static void promise28TheCostThatWouldBeCounted() {
        predictsRefresh("the cheapest whole list", new StreetEditions(), 2, 1);
        predictsRefresh("the dearest whole list", Do.withPublished(30), 2, 31);
        predictsRefresh("the cheapest difference", Do.after("r0;+1;p"), 1, 2);
        StreetEditions x = new StreetEditions();
        x.refresh(0);
        Do.addFirst(x, 30);
        x.publish();
        predictsRefresh("the dearest difference", x, 1, 31);
        predictsRefresh("differences that cost as much", Do.after("+1;+2;p;r0;-1;+3;p"), 1, 3);
        predictsRefresh("differences that cost 1 more", Do.after("+1;+2;+3;p;r0;-1;-3;p"), 2, 2);
        StreetEditions asleep = Do.after("+1;+2;p;r0;s0;+3;p");
        Due.is("costToCome of one asleep", asleep.costToCome(0), 2);
    }

    /** "0 with the answers 0 and 3" */
    private static void promise28NoCostWithTheAnswers0And3() {
        predictsRefresh("0", Do.after("+1;+2;p;r0"), 0, 0);
        predictsRefresh("0 with a wrong list", Do.after("+1;+2;p;r0;n0;+3;p"), 0, 0);
        predictsRefresh("3", Do.after("+1;+2;p;r0;n0"), 3, 0);
        predictsRefresh("3 with a difference", Do.after("+1;+2;p;n9;r0;n1;+3;p"), 3, 0);
    }

    /** "Returns the number of streets that are in this list or in the published list, but not in both; NONE without
     *  a list." */
    private static void promise29StreetsThatAreWrong() {
        StreetEditions x = new StreetEditions();
        Due.is("without a list", x.wrong(0), NONE);
        x.refresh(0);
        Due.is("both empty", x.wrong(0), 0);
        Do.addFirst(x, 29);
        Due.is("what is in the draft does not count", x.wrong(0), 0);
        x.publish();
        Due.is("29 too few", x.wrong(0), 29);
        x.add(29);
        x.publish();
        Due.is("30 too few", x.wrong(0), 30);
        x.refresh(0);
        Due.is("both full", x.wrong(0), 0);
        x.crossOut(0);
        x.publish();
        Due.is("1 too many", x.wrong(0), 1);
        for (int s = 1; s < 30; s++) {
            x.crossOut(s);
        }
        x.publish();
        Due.is("30 too many", x.wrong(0), 30);
        Due.is("another one without a list", x.wrong(1), NONE);
        Due.is("one too many, one too few", Do.after("+0;+1;p;r0;-0;+29;p").wrong(0), 2);
        x.throwAway(0);
        Due.is("without a list again", x.wrong(0), NONE);
    }

    /** "0.0 if no costs were counted" */
    private static void promise30NoCosts() {
        StreetEditions x = new StreetEditions();
        Due.is("at first", x.savedShare(), 0.0);
        Do.texts(x, "+1;p;s0;w0;n3");
        x.throwAway(0);
        Due.is("when no one refreshed", x.savedShare(), 0.0);
        x.refresh(0);
        x.undo();
        Due.is("when the only costs are undone", x.savedShare(), 0.0);
    }

    private static void promise30WholeListsAlone() {
        StreetEditions x = new StreetEditions();
        x.refresh(3);
        Due.is("the least costs", x.savedShare(), 0.0);
        Do.texts(x, "+1;p;r0;r1;r0;n0;r0");
        Due.is("nothing and refused", x.savedShare(), 0.0);
        Due.is("what they cost", x.costs(0), 2);
        x.throwAway(0);
        x.refresh(0);
        Due.is("a whole list again", x.savedShare(), 0.0);
        StreetEditions dear = Do.after("+1;+2;p;r0;-1;-2;+3;p;r0");
        Due.is("in place of dear differences", dear.savedShare(), 0.0);
    }

    /** "1.0 minus (the costs that were counted for all followers, as a double, divided by the costs that would have
     *  been counted with whole lists in place of differences, as a double)" */
    private static void promise30Differences() {
        StreetEditions x = Do.after("+1;+2;+3;p;r0;+4;p;r0");
        Due.is("4 and 2, not 5", x.savedShare(), 1.0 - 6.0 / 9.0);
        x.refresh(3);
        Due.is("and 5", x.savedShare(), 1.0 - 11.0 / 14.0);
        Do.texts(x, "+5;p;r3;+6;p;r0");
        Due.is("and 2, not 6, and 4, not 7", x.savedShare(), 1.0 - 17.0 / 27.0);
        x.throwAway(0);
        x.throwAway(3);
        Due.is("of the lists that are gone too", x.savedShare(), 1.0 - 17.0 / 27.0);
        StreetEditions same = Do.after("r0;+1;p;r0");
        Due.is("a difference that costs as much as the list", same.savedShare(), 0.0);
        Due.is("its costs", same.costs(0), 3);
    }

    /** The whole list of the time when the follower refreshed, not the one of now. */
    private static void promise30WholeListsInPlaceOfDifferences() {
        StreetEditions x = Do.withPublished(29);
        x.refresh(0);
        Do.texts(x, "+29;p;r0");
        Due.is("30 and 2, not 31", x.savedShare(), 1.0 - 32.0 / 61.0);
        for (int s = 0; s < 30; s++) {
            x.crossOut(s);
        }
        x.publish();
        Due.is("whatever is published then", x.savedShare(), 1.0 - 32.0 / 61.0);
        x.refresh(0);
        Due.is("and 1", x.savedShare(), 1.0 - 33.0 / 62.0);
    }
}
