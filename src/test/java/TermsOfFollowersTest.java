/** The sentences of the document's Terms on followers, one test each. */
public final class TermsOfFollowersTest {

    private static final int NONE = StreetEditions.NONE;

    public static void main(String[] args) {
        fourFollowersNumberedFrom0();
        noListAtFirst();
        aListAndTheNumberOfItsEdition();
        awakeWithoutANoticeAtFirst();
        theNoticeIsGoneWithEachAnswer();
        rule1NoList();
        rule1BeforeTheOthers();
        rule2TheSameNumber();
        rule3TheNumberIsOlder();
        rule3NothingElseChanges();
        rule4TheOldestKeptDifferenceLeadsAway();
        rule4FromThisOneOn();
        rule4AtMostTheCostOfTheWholeList();
        rule4AtMostTheCostInAll();
        rule4AnEmptyWholeList();
        rule4OneAfterTheOther();
        rule4OnAListThatIsWrong();
        rule5Otherwise();
        aDifferenceCosts1AndItsStreets();
        theWholeListCosts1AndItsStreets();
        answer2BringsThePublishedList();
        answers1And2BringTheEditionAndCount();
        answers0And3BringNeither();
        rightWithThePublishedList();
        Due.end("TermsOfFollowersTest");
    }

    private static void refreshes(StreetEditions x, String when, int answer, int cost) {
        int costs = x.costs(0);
        Due.is("answer(0) " + when, x.answer(0), answer);
        Due.is("costToCome(0) " + when, x.costToCome(0), cost);
        Due.is("refresh(0) " + when, x.refresh(0), answer);
        Due.is("costs(0) " + when, x.costs(0), costs + cost);
    }

    /** "There are four followers, numbered from 0." */
    private static void fourFollowersNumberedFrom0() {
        for (int f : new int[] {0, 3}) {
            StreetEditions x = Do.after("+5;p");
            Due.is("refresh(" + f + ")", x.refresh(f), 2);
            Due.is("sleep(" + f + ")", x.sleep(f), 1);
            Due.is("attention(" + f + ")", x.attention(f), 2);
            Due.is("wake(" + f + ")", x.wake(f), 0);
            Due.is("editionOf(" + f + ")", x.editionOf(f), 1);
            Due.is("streets(" + f + ")", x.streets(f), 1);
            Due.is("has(" + f + ", 5)", x.has(f, 5), true);
            Due.is("isRight(" + f + ")", x.isRight(f), true);
            Due.is("costs(" + f + ")", x.costs(f), 2);
            Due.is("answer(" + f + ")", x.answer(f), 0);
            Due.is("costToCome(" + f + ")", x.costToCome(f), 0);
            Due.is("wrong(" + f + ")", x.wrong(f), 0);
            Due.is("throwAway(" + f + ")", x.throwAway(f), 1);
        }
        StreetEditions x = Do.after("+5;p;r0;r3;s0");
        for (int f : new int[] {-1, 4}) {
            Due.noSuch(x, "refresh(" + f + ")", () -> x.refresh(f));
            Due.noSuch(x, "sleep(" + f + ")", () -> x.sleep(f));
            Due.noSuch(x, "wake(" + f + ")", () -> x.wake(f));
            Due.noSuch(x, "throwAway(" + f + ")", () -> x.throwAway(f));
            Due.noSuch(x, "editionOf(" + f + ")", () -> x.editionOf(f));
            Due.noSuch(x, "streets(" + f + ")", () -> x.streets(f));
            Due.noSuch(x, "has(" + f + ", 5)", () -> x.has(f, 5));
            Due.noSuch(x, "isRight(" + f + ")", () -> x.isRight(f));
            Due.noSuch(x, "attention(" + f + ")", () -> x.attention(f));
            Due.noSuch(x, "costs(" + f + ")", () -> x.costs(f));
            Due.noSuch(x, "answer(" + f + ")", () -> x.answer(f));
            Due.noSuch(x, "costToCome(" + f + ")", () -> x.costToCome(f));
            Due.noSuch(x, "wrong(" + f + ")", () -> x.wrong(f));
        }
    }

    /** "or no list, which is so at first" */
    private static void noListAtFirst() {
        StreetEditions x = new StreetEditions();
        for (int f = 0; f < 4; f++) {
            Due.is("editionOf(" + f + ") at first", x.editionOf(f), NONE);
            Due.is("streets(" + f + ") at first", x.streets(f), NONE);
            Due.is("answer(" + f + ") at first", x.answer(f), 2);
        }
    }

    /** "A follower has a list and the number of its edition" */
    private static void aListAndTheNumberOfItsEdition() {
        StreetEditions x = Do.after("r0;n15;+1;r1;p;r2;+2;p");
        Due.is("editionOf(0)", x.editionOf(0), 0);
        Due.is("streets(0), an empty list", x.streets(0), 0);
        Due.is("editionOf(1)", x.editionOf(1), 15);
        Due.is("streets(1)", x.streets(1), 0);
        Due.is("editionOf(2)", x.editionOf(2), 0);
        Due.is("streets(2)", x.streets(2), 1);
        Due.is("editionOf(3)", x.editionOf(3), NONE);
    }

    /** "A follower is awake or asleep, at first awake, and has a notice or not, at first not." */
    private static void awakeWithoutANoticeAtFirst() {
        StreetEditions x = new StreetEditions();
        for (int f = 0; f < 4; f++) {
            Due.is("attention(" + f + ") at first", x.attention(f), 0);
        }
        Due.is("the first one asleep", x.sleep(2), 1);
    }

    /** "When a follower refreshes, the notice is gone" */
    private static void theNoticeIsGoneWithEachAnswer() {
        String[] texts = {"r0;+1;p;n0", "+1;+2;p;r0;+3;p", "+1;p", "n9;r0;n1"};
        for (int answer = 0; answer < 4; answer++) {
            StreetEditions x = Do.after(texts[answer]);
            Due.is("a notice before answer " + answer, x.attention(0), 1);
            Due.is("refresh(0)", x.refresh(0), answer);
            Due.is("a notice after answer " + answer, x.attention(0), 0);
            Due.is("that of another one stays", x.attention(1), 1);
        }
    }

    /** "1. The follower has no list: the answer is 2 (the whole list)." */
    private static void rule1NoList() {
        refreshes(new StreetEditions(), "of a new object", 2, 1);
        refreshes(Do.after("+1;+2;p"), "without a list", 2, 3);
        StreetEditions x = Do.after("+1;+2;p;r0");
        refreshes(x, "with a list", 0, 0);
        x.throwAway(0);
        refreshes(x, "without a list again", 2, 3);
    }

    /** "one of these is done, the first one that applies" */
    private static void rule1BeforeTheOthers() {
        StreetEditions sameNumber = Do.after("+1;p;r0");
        sameNumber.throwAway(0);
        refreshes(sameNumber, "without a list that had the same number", 2, 2);
        StreetEditions older = Do.after("+1;p;n8;r0;n0");
        older.throwAway(0);
        refreshes(older, "without a list that had a number which is newer", 2, 2);
        StreetEditions differences = Do.after("+1;+2;+3;p;r0;+4;p");
        differences.throwAway(0);
        refreshes(differences, "without a list that differences lead away from", 2, 5);
        StreetEditions sameOf0 = Do.after("+1;p;n0");
        refreshes(sameOf0, "without any list, at edition 0", 2, 2);
    }

    /** "2. The edition of the follower has the number of the printer's one: the answer is 0 (nothing)." */
    private static void rule2TheSameNumber() {
        refreshes(Do.after("r0"), "of the same edition", 0, 0);
        StreetEditions other = Do.after("+1;p;r0;+2;p;+3;p;n1");
        refreshes(other, "of another edition with the same number", 0, 0);
        Due.is("though it is wrong", other.wrong(0), 2);
        StreetEditions reached = Do.after("+1;p;r0;n0;+2;p");
        refreshes(reached, "of a number that is reached again", 0, 0);
        Due.is("though a difference is kept", reached.kept(), 1);
        refreshes(Do.after("+1;p;r0;n2"), "of a number one less", 2, 2);
        refreshes(Do.after("+1;p;r0;n0"), "of a number one more", 3, 0);
    }

    /** "3. The number of the printer's edition is older than that of the follower: the answer is 3 (refused)" */
    private static void rule3TheNumberIsOlder() {
        for (int number = 0; number < 16; number++) {
            int behind = number;
            StreetEditions x = new StreetEditions();
            x.renumber(5);
            x.refresh(0);
            if (behind != 0) {
                x.renumber((5 - behind + 16) % 16);
            }
            int due = behind == 0 ? 0 : behind <= 8 ? 3 : 2;
            refreshes(x, "with the printer " + behind + " behind", due, due == 2 ? 1 : 0);
        }
        StreetEditions x = Do.after("n9;+1;p;r0;n1;+2;p");
        refreshes(x, "8 behind, with a difference kept", 3, 0);
        Do.texts(x, "n0;+3;p");
        refreshes(x, "9 behind, which is 7 ahead", 2, 4);
    }

    /** "nothing else changes" */
    private static void rule3NothingElseChanges() {
        StreetEditions x = Do.after("+1;+2;p;r0;n14;+3;p");
        Due.is("a notice before", x.attention(0), 1);
        Due.is("refused", x.refresh(0), 3);
        Due.is("the notice is gone", x.attention(0), 0);
        Due.is("costs then", x.costs(0), 3);
        Due.is("edition then", x.editionOf(0), 1);
        Due.is("streets then", x.streets(0), 2);
        Due.is("everything then", Deep.of(() -> refusedBefore(true)), Deep.of(() -> refusedBefore(false)));
    }

    /** An object whose saved states are alike with and without the refused call. */
    private static StreetEditions refusedBefore(boolean onceMore) {
        StreetEditions x = Do.after("+1;+2;p;r0;s2;n14;+3;p;r0");
        if (onceMore) {
            Due.is("refused once more", x.refresh(0), 3);
        }
        for (int i = 0; i < 6; i++) {
            x.setKeep(3);
        }
        return x;
    }

    /** "4. A kept difference leads away from the edition of the follower" */
    private static void rule4TheOldestKeptDifferenceLeadsAway() {
        for (int keep = 1; keep <= 6; keep++) {
            StreetEditions x = Do.withPublished(28);
            x.setKeep(keep);
            Do.texts(x, "n13;r0");
            Do.publish(x, keep);
            refreshes(x, "as many editions behind as are kept, " + keep, 1, 2 * keep);
            Due.is("right then", x.isRight(0), true);
            Do.publish(x, keep + 1);
            Due.is("one edition more, the whole list", x.costToCome(0), 1 + x.published());
            refreshes(x, "one edition more than are kept, " + keep, 2, 1 + x.published());
            Due.is("right with the whole list", x.isRight(0), true);
        }
        refreshes(Do.after("+1;+2;p;r0;n2;+3;p"), "from a number from which none leads away", 2, 4);
    }

    /** "let c be the cost of all kept differences from this one on" */
    private static void rule4FromThisOneOn() {
        for (int behind = 1; behind <= 3; behind++) {
            StreetEditions x = Do.withPublished(20);
            String[] orders = {"-1;+20;+21;+22;p", "-2;-3;p", "-4;p"};
            for (int e = 0; e < 3; e++) {
                if (behind == 3 - e) {
                    x.refresh(0);
                }
                Do.texts(x, orders[e]);
            }
            refreshes(x, behind + " behind", 1, new int[] {0, 2, 2 + 3, 2 + 3 + 5}[behind]);
            Due.is("right", x.isRight(0), true);
        }
    }

    /** "If c is at most the cost of the whole list, the answer is 1 (differences)" */
    private static void rule4AtMostTheCostOfTheWholeList() {
        refreshes(Do.after("+1;+2;+3;p;r0;-3;+4;p"), "for 1 less than the whole list", 1, 3);
        refreshes(Do.after("+1;+2;p;r0;-2;+4;p"), "for as much as the whole list", 1, 3);
        refreshes(Do.after("+1;+2;+3;p;r0;-2;-3;p"), "for 1 more than the whole list", 2, 2);
        refreshes(Do.after("+1;+2;p;r0;-1;-2;+3;+4;p"), "for 2 more than the whole list", 2, 3);
        refreshes(Do.after("r0;+1;+2;+3;p"), "for as much, from an empty list", 1, 4);
    }

    /** The same sentence, with the cost of more than one difference. */
    private static void rule4AtMostTheCostInAll() {
        refreshes(Do.after("+1;+2;p;r0;+3;p;+4;p"), "for 1 less in all", 1, 4);
        refreshes(Do.after("+1;+2;+3;p;r0;-1;p;+4;p"), "for as much in all", 1, 4);
        refreshes(Do.after("+1;+2;p;r0;-1;p;+3;p"), "for 1 more in all", 2, 3);
        refreshes(Do.after("+1;+2;+3;+4;+5;p;r0;+6;p;-6;p;+7;p"), "for 1 less, three", 1, 6);
        refreshes(Do.after("+1;+2;+3;+4;p;r0;+6;p;-6;p;+7;p"), "for as much, three", 1, 6);
        refreshes(Do.after("+1;+2;+3;p;r0;+6;p;-6;p;+7;p"), "for 1 more, three", 2, 5);
    }

    private static void rule4AnEmptyWholeList() {
        StreetEditions x = Do.after("+1;p;r0;-1;p");
        refreshes(x, "of an empty list", 2, 1);
        Due.is("right", x.isRight(0), true);
        Do.texts(x, "+1;p");
        refreshes(x, "of a list of one street", 1, 2);
        Due.is("right then", x.isRight(0), true);
    }

    /** "they are applied to the list of the follower one after the other" */
    private static void rule4OneAfterTheOther() {
        StreetEditions x = Do.after("+0;+1;+2;+3;+4;+5;+6;+29;p;r0;-0;+7;p;+0;-7;-29;p");
        refreshes(x, "of streets that went and came", 1, 3 + 4);
        Due.is("went and came", x.has(0, 0), true);
        Due.is("came and went", x.has(0, 7), false);
        Due.is("went", x.has(0, 29), false);
        Due.is("right", x.isRight(0), true);
    }

    /** "each one by crossing streets out and then adding streets" */
    private static void rule4OnAListThatIsWrong() {
        StreetEditions x = Do.after("+0;+1;+2;+3;p;r0;n0;-0;-1;+28;+29;p;n0;-2;+20;p", "-28;p;+0;-20;+21;p");
        Due.is("streets that are wrong", x.wrong(0), 4);
        refreshes(x, "of a wrong list, with dear differences", 2, 5);
        StreetEditions y = Do.after("+0;+1;+2;+3;p;r0;n0;-0;-1;+10;+11;+28;+29;p", "-28;p;+0;-3;p");
        Due.is("edition", y.edition(), 3);
        refreshes(y, "of a wrong list, with differences", 1, 2 + 3);
        Due.is("crossed out, though not there", y.has(0, 28), false);
        Due.is("added, though there", y.has(0, 0), true);
        Due.is("crossed out", y.has(0, 3), false);
        Due.is("left, though not published", y.has(0, 1), true);
        Due.is("not added, though published", y.has(0, 29), false);
        Due.is("streets then", y.streets(0), 3);
    }

    /** "5. Otherwise the answer is 2 (the whole list)." */
    private static void rule5Otherwise() {
        refreshes(Do.after("+1;+2;+3;+4;p;r0;n8"), "7 ahead without a difference", 2, 5);
        refreshes(Do.after("+1;+2;+3;+4;p;r0;n2"), "1 ahead without a difference", 2, 5);
        StreetEditions dropped = Do.after("+1;+2;+3;+4;p;r0;+5;p;+6;p");
        dropped.setKeep(1);
        refreshes(dropped, "with a difference that was dropped", 2, 7);
        StreetEditions still = Do.after("+1;+2;+3;+4;p;r0;+5;p;+6;p");
        still.setKeep(2);
        refreshes(still, "with a difference that was not dropped", 1, 4);
        refreshes(Do.after("+1;p;r0;-1;+2;+3;p"), "with a difference that is dear", 2, 3);
    }

    /** "a difference costs 1 plus the number of its streets" */
    private static void aDifferenceCosts1AndItsStreets() {
        Due.is("1 street", Do.after("+0;p").cost(0), 2);
        Due.is("1 street, crossed out", Do.after("+0;p;-0;p").cost(1), 2);
        Due.is("29 streets", Do.withPublished(29).cost(0), 30);
        Due.is("30 streets", Do.withPublished(30).cost(0), 31);
        StreetEditions x = Do.withPublished(15);
        for (int s = 0; s < 30; s++) {
            Do.toggle(x, s);
        }
        x.publish();
        Due.is("15 streets crossed out and 15 added", x.cost(1), 31);
    }

    /** "The whole list costs 1 plus the number of its streets." */
    private static void theWholeListCosts1AndItsStreets() {
        refreshes(new StreetEditions(), "of the empty list", 2, 1);
        refreshes(Do.withPublished(1), "of 1 street", 2, 2);
        refreshes(Do.withPublished(30), "of all 30 streets", 2, 31);
        StreetEditions x = Do.withPublished(3);
        Do.texts(x, "-0;-1;-2;+9");
        refreshes(x, "of 3 streets, whatever the draft is", 2, 4);
    }

    /** "With the answer 2 the list of the follower becomes the published list." */
    private static void answer2BringsThePublishedList() {
        StreetEditions x = Do.after("+0;+1;+29;p;r0;n5;-0;+2;p;-29;+3");
        refreshes(x, "of what is published", 2, 4);
        Due.is("no longer published", x.has(0, 0), false);
        Due.is("published before and now", x.has(0, 1), true);
        Due.is("published now", x.has(0, 2), true);
        Due.is("crossed out of the draft alone", x.has(0, 29), true);
        Due.is("added to the draft alone", x.has(0, 3), false);
        Due.is("right", x.isRight(0), true);
        x.publish();
        Due.is("a list of their own", x.has(0, 29), true);
    }

    /** "With the answers 1 and 2 the edition of the follower becomes that of the printer, and the costs are
     *  counted for the follower." */
    private static void answers1And2BringTheEditionAndCount() {
        StreetEditions x = Do.after("n15");
        refreshes(x, "of edition 15", 2, 1);
        Due.is("edition 15", x.editionOf(0), 15);
        Do.texts(x, "+1;p");
        refreshes(x, "of edition 0", 1, 2);
        Due.is("edition 0", x.editionOf(0), 0);
        Due.is("both costs", x.costs(0), 3);
        Due.is("no costs of another one", x.costs(1), 0);
        Due.is("no list of another one", x.editionOf(1), NONE);
    }

    /** The same sentence, for the other answers. */
    private static void answers0And3BringNeither() {
        StreetEditions x = Do.after("n5;+1;p;r0");
        refreshes(x, "of the same edition", 0, 0);
        Due.is("edition after 0", x.editionOf(0), 6);
        x.renumber(5);
        refreshes(x, "of an older edition", 3, 0);
        Due.is("edition after 3", x.editionOf(0), 6);
        Due.is("costs after both", x.costs(0), 2);
    }

    /** "A follower is right if they have a list, and it is the published list; the number does not matter for
     *  this." */
    private static void rightWithThePublishedList() {
        Due.is("no list, when an empty one is published", new StreetEditions().isRight(0), false);
        Due.is("an empty list, when an empty one is published", Do.after("r0").isRight(0), true);
        Due.is("one street too few", Do.after("r0;+0;p").isRight(0), false);
        Due.is("one street too many", Do.after("+0;+29;p;r0;-29;p").isRight(0), false);
        Due.is("as many streets, but others", Do.after("+0;+29;p;r0;-29;+28;p").isRight(0), false);
        Due.is("an older edition that is the same list", Do.after("+0;p;r0;+1;p;-1;p").isRight(0), true);
        Due.is("another number", Do.after("+0;p;r0;n0").isRight(0), true);
        Due.is("the same number, but another list", Do.after("+0;p;r0;n0;+1;p").isRight(0), false);
        Due.is("the draft does not matter", Do.after("+0;p;r0;-0").isRight(0), true);
        StreetEditions x = Do.after("+0;p;r0");
        x.throwAway(0);
        Due.is("no list any more", x.isRight(0), false);
    }
}
