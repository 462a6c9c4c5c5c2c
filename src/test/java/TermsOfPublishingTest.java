/** The sentences of the document's Terms on streets, lists, editions and publishing, one test each. */
public final class TermsOfPublishingTest {

    public static void main(String[] args) {
        usedFor512Calls();
        streetsAre0To29();
        atFirstEmptyAndEdition0();
        editionNumbersAre0To15();
        behind15Is0();
        newerIs1To7AndOlder8To15();
        theDraftBecomesThePublishedList();
        theDifferenceIsKept();
        theDifferenceIsKeptWithBothNumbers();
        threeAreKeptAtFirst();
        oneToSixAreKept();
        theOldestIsDropped();
        differencesLeadToThePresentEdition();
        renumberingLeavesTheLists();
        renumberingDropsAllDifferences();
        noticesWhenPublishedOrRenumbered();
        Due.end("TermsOfPublishingTest");
    }

    /** "An object is used for at most 512 calls after it has been made" */
    private static void usedFor512Calls() {
        StreetEditions x = new StreetEditions();
        for (int call = 1; call <= 505; call += 4) {
            Due.is("call " + call, x.add(3), 1);
            x.publish();
            x.crossOut(3);
            Due.is("call " + (call + 3), x.publish(), (call / 4 * 2 + 2) % 16);
        }
        Due.is("call 509", x.refresh(0), 2);
        Due.is("call 510", x.savedStates(), 6);
        Due.is("call 511", x.undo(), 5);
        Due.is("call 512", x.edition(), 254 % 16);
    }

    /** "A street is a number from 0 to 29." */
    private static void streetsAre0To29() {
        for (int street : new int[] {0, 29}) {
            StreetEditions x = new StreetEditions();
            Due.is("add(" + street + ")", x.add(street), 1);
            Due.is("where(" + street + ")", x.where(street), 1);
            Due.is("has(0, " + street + ")", x.has(0, street), false);
            Due.is("crossOut(" + street + ")", x.crossOut(street), 0);
        }
        StreetEditions x = Do.withPublished(30);
        for (int street : new int[] {-1, 30}) {
            Due.noSuch(x, "add(" + street + ")", () -> x.add(street));
            Due.noSuch(x, "where(" + street + ")", () -> x.where(street));
            Due.noSuch(x, "has(0, " + street + ")", () -> x.has(0, street));
            Due.noSuch(x, "crossOut(" + street + ")", () -> x.crossOut(street));
        }
    }

    /** "The printer has a draft and a published list, both empty at first, and an edition number .. at first 0." */
    private static void atFirstEmptyAndEdition0() {
        StreetEditions x = new StreetEditions();
        for (int s = 0; s < 30; s++) {
            Due.is("where(" + s + ") at first", x.where(s), 0);
        }
        Due.is("draft at first", x.draft(), 0);
        Due.is("published at first", x.published(), 0);
        Due.is("edition at first", x.edition(), 0);
    }

    /** "an edition number from 0 to 15" */
    private static void editionNumbersAre0To15() {
        StreetEditions x = new StreetEditions();
        x.renumber(15);
        Due.is("edition 15", x.edition(), 15);
        Due.bad(x, "renumber(16)", () -> x.renumber(16));
        x.renumber(0);
        Due.is("edition 0", x.edition(), 0);
        Due.bad(x, "renumber(-1)", () -> x.renumber(-1));
    }

    /** "Edition numbers go round: the number behind 15 is 0." */
    private static void behind15Is0() {
        StreetEditions x = Do.after("n14;+1");
        Due.is("behind 14", x.publish(), 15);
        x.add(2);
        Due.is("behind 15", x.publish(), 0);
        Due.is("edition", x.edition(), 0);
        x.add(3);
        Due.is("behind 0", x.publish(), 1);
    }

    /** "A number a is newer than a number b if (a - b) modulo 16 is 1 to 7, and older if it is 8 to 15." */
    private static void newerIs1To7AndOlder8To15() {
        StreetEditions x = new StreetEditions();
        for (int b = 0; b < 16; b++) {
            Due.is("0 ahead of " + b, x.compare(b, b), 0);
            Due.is("1 ahead of " + b, x.compare((b + 1) % 16, b), 1);
            Due.is("7 ahead of " + b, x.compare((b + 7) % 16, b), 1);
            Due.is("8 ahead of " + b, x.compare((b + 8) % 16, b), -1);
            Due.is("15 ahead of " + b, x.compare((b + 15) % 16, b), -1);
        }
        for (int b = 0; b < 16; b++) {
            for (int ahead = 0; ahead < 16; ahead++) {
                int due = ahead == 0 ? 0 : ahead <= 7 ? 2 : 3;
                Due.is(ahead + " ahead of the follower's " + b, answerTo(b, (b + ahead) % 16), due);
            }
        }
    }

    private static int answerTo(int follower, int printer) {
        StreetEditions x = new StreetEditions();
        takeNumber(x, follower);
        x.refresh(0);
        takeNumber(x, printer);
        return x.refresh(0);
    }

    private static void takeNumber(StreetEditions x, int edition) {
        if (x.edition() != edition) {
            x.renumber(edition);
        }
    }

    /** "the draft becomes the published list, the edition number becomes the next one" */
    private static void theDraftBecomesThePublishedList() {
        StreetEditions x = Do.after("+0;+1;+29;p");
        Due.is("edition then", x.edition(), 1);
        Due.is("added and published", x.where(29), 3);
        Due.is("nothing is pending", x.pending(), 0);
        Do.texts(x, "-0;+2;p");
        Due.is("edition at the end", x.edition(), 2);
        Due.is("crossed out and published", x.where(0), 0);
        Due.is("added in the end", x.where(2), 3);
        Due.is("there all the time", x.where(1), 3);
        Due.is("nothing is pending in the end", x.pending(), 0);
        x.crossOut(1);
        Due.is("the draft is a list of its own", x.published(), 3);
    }

    /** "the difference between the published list of before and the new one (the streets that are crossed out,
     *  and those that are added) is kept" */
    private static void theDifferenceIsKept() {
        StreetEditions x = Do.withPublished(30);
        Due.is("30 added", x.cost(0), 31);
        Do.texts(x, "-0;p;+0;-29;p");
        Due.is("1 crossed out", x.cost(1), 2);
        Due.is("1 added, 1 crossed out", x.cost(2), 3);
        x.refresh(0);
        Do.texts(x, "+29;-28;p;-1;+28;-29;p");
        Due.is("1 added, 2 crossed out", x.cost(2), 4);
        Due.is("refresh with differences", x.refresh(0), 1);
        Due.is("what they cross out", x.has(0, 1), false);
        Due.is("what they cross out and add", x.has(0, 28), true);
        Due.is("what they add and cross out", x.has(0, 29), false);
        Due.is("what they leave", x.has(0, 0), true);
        Due.is("the rest", x.streets(0), 28);
        for (int s = 0; s < 29; s++) {
            if (s != 1) {
                x.crossOut(s);
            }
        }
        x.publish();
        Due.is("28 crossed out", x.cost(2), 29);
    }

    /** "with both edition numbers" */
    private static void theDifferenceIsKeptWithBothNumbers() {
        StreetEditions x = Do.after("n15;+1;+2;p;r0;+3;p;r1;+4;p");
        Due.is("from 15", x.from(0), 15);
        Due.is("from 0", x.from(1), 0);
        Due.is("from 1", x.from(2), 1);
        Due.is("from 0 on to 2", x.refresh(0), 1);
        Due.is("edition of the one from 0", x.editionOf(0), 2);
        Due.is("costs of the one from 0", x.costs(0), 3 + 4);
        Due.is("from 1 to 2", x.refresh(1), 1);
        Due.is("edition of the one from 1", x.editionOf(1), 2);
        Due.is("costs of the one from 1", x.costs(1), 4 + 2);
    }

    /** "At most so many differences are kept as the printer keeps, which is .. at first 3" */
    private static void threeAreKeptAtFirst() {
        StreetEditions x = new StreetEditions();
        int[] due = {0, 1, 2, 3, 3, 3};
        for (int e = 0; e < due.length; e++) {
            Due.is("kept after " + e, x.kept(), due[e]);
            Do.publish(x, 1);
        }
    }

    /** "which is 1 to 6" */
    private static void oneToSixAreKept() {
        StreetEditions x = new StreetEditions();
        Due.bad(x, "setKeep(0)", () -> x.setKeep(0));
        Due.bad(x, "setKeep(7)", () -> x.setKeep(7));
        Do.publish(x, 4);
        Due.is("3 as at first", x.kept(), 3);
        x.setKeep(6);
        Do.publish(x, 10);
        Due.is("6 kept", x.kept(), 6);
        Due.bad(x, "setKeep(7) after 6", () -> x.setKeep(7));
        x.setKeep(1);
        Due.bad(x, "setKeep(0) after 1", () -> x.setKeep(0));
        Due.is("1 kept", x.kept(), 1);
        Do.publish(x, 10);
        Due.is("1 kept after 10 more", x.kept(), 1);
    }

    /** "when there is one more, the oldest one is dropped" */
    private static void theOldestIsDropped() {
        for (int keep = 1; keep <= 6; keep++) {
            StreetEditions x = new StreetEditions();
            x.setKeep(keep);
            for (int e = 0; e < keep; e++) {
                x.add(e);
                x.publish();
            }
            Due.is("kept, full, of " + keep, x.kept(), keep);
            Due.is("the oldest, full, of " + keep, x.from(0), 0);
            Do.texts(x, "+28;+29;p");
            Due.is("kept, one more than " + keep, x.kept(), keep);
            Due.is("the oldest, one more than " + keep, x.from(0), 1);
            Due.is("the newest, one more than " + keep, x.from(keep - 1), keep);
            Due.is("its cost", x.cost(keep - 1), 3);
        }
    }

    /** "So the kept differences lead one after the other from some edition to the present one." */
    private static void differencesLeadToThePresentEdition() {
        for (int keep = 1; keep <= 6; keep++) {
            StreetEditions x = new StreetEditions();
            x.setKeep(keep);
            for (int e = 1; e <= 20; e++) {
                Do.publish(x, 1);
                int from = (x.edition() - x.kept() + 16) % 16;
                for (int d = 0; d < x.kept(); d++) {
                    Due.is("keep " + keep + ", edition " + e + ", from(" + d + ")", x.from(d), (from + d) % 16);
                }
            }
        }
        StreetEditions x = Do.after("+1;p;n9;+2;p;+3;p");
        Due.is("from the number that the edition was given", x.from(0), 9);
        Due.is("and on from there", x.from(1), 10);
    }

    /** "To renumber means: the edition number becomes another one, without any change of the lists" */
    private static void renumberingLeavesTheLists() {
        StreetEditions x = Do.after("+0;+1;+29;p;r0;r3;-0;+2");
        x.renumber(7);
        Due.is("the number", x.edition(), 7);
        Due.is("crossed out of the draft", x.where(0), 2);
        Due.is("in both", x.where(29), 3);
        Due.is("added to the draft", x.where(2), 1);
        Due.is("in none", x.where(3), 0);
        for (int f : new int[] {0, 3}) {
            Due.is("the list of follower " + f, x.isRight(f), true);
            Due.is("the edition of follower " + f, x.editionOf(f), 1);
        }
        Due.is("no list", x.streets(1), StreetEditions.NONE);
    }

    /** "all differences are dropped" */
    private static void renumberingDropsAllDifferences() {
        for (int editions : new int[] {0, 1, 6}) {
            StreetEditions x = new StreetEditions();
            x.setKeep(6);
            Do.publish(x, editions);
            Due.is("kept before", x.kept(), editions);
            x.renumber(12);
            Due.is("kept then", x.kept(), 0);
            Due.noSuch(x, "from(0) then", () -> x.from(0));
            Do.publish(x, 7);
            Due.is("six are kept as before", x.kept(), 6);
            Due.is("from the new number on", x.from(0), 13);
        }
    }

    /** "When the printer publishes or renumbers, each follower who is awake gets a notice." */
    private static void noticesWhenPublishedOrRenumbered() {
        for (String news : new String[] {"p", "n9"}) {
            StreetEditions x = Do.after("s1;n1;s2;r0;+5");
            attentionIs(x, "before " + news, 0, 2, 3, 1);
            Do.texts(x, news);
            attentionIs(x, "after " + news, 1, 2, 3, 1);
        }
        StreetEditions x = Do.after("+5;-5;+6;r0;s3;w3");
        x.setKeep(2);
        x.throwAway(0);
        attentionIs(x, "after other calls", 0, 0, 0, 0);
        StreetEditions y = new StreetEditions();
        Due.notNow(y, "publish of nothing new", y::publish);
        Due.bad(y, "renumber to the present number", () -> y.renumber(0));
        attentionIs(y, "after refused calls", 0, 0, 0, 0);
    }

    private static void attentionIs(StreetEditions x, String when, int... due) {
        for (int f = 0; f < 4; f++) {
            Due.is("attention(" + f + ") " + when, x.attention(f), due[f]);
        }
    }
}
