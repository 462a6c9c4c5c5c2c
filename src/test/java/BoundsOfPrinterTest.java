/** The ranges, the "Returns" and the "Throws" of promises 1 to 15, with what is just inside and just outside. */
public final class BoundsOfPrinterTest {

    public static void main(String[] args) {
        promise1AnEmptyList();
        promise2Streets();
        promise2ReturnsTheStreetsInTheDraft();
        promise2ThrowsIfItIsInTheDraft();
        promise3Streets();
        promise3ReturnsTheStreetsInTheDraft();
        promise3ThrowsIfItIsNotInTheDraft();
        promise4ReturnsTheNewNumber();
        promise4ThrowsIfTheDraftIsThePublishedList();
        promise5Editions();
        promise5ReturnsThePreviousNumber();
        promise5ThrowsIfItIsThePresentNumber();
        promise6Counts();
        promise6OlderOnesAreDropped();
        promise6ReturnsTheDifferencesThatAreKeptThen();
        promise7Edition();
        promise8Draft();
        promise9Published();
        promise10Where();
        promise11Pending();
        promise12Kept();
        promise13From();
        promise13ThrowsWithoutSuchADifference();
        promise14Cost();
        promise14ThrowsWithoutSuchADifference();
        promise15Compare();
        promise15ThrowsIfANumberIsOutOfRange();
        Due.end("BoundsOfPrinterTest");
    }

    /** "Creates a printer with an empty list." */
    private static void promise1AnEmptyList() {
        StreetEditions x = new StreetEditions();
        Due.is("draft", x.draft(), 0);
        Due.is("published", x.published(), 0);
        Due.is("pending", x.pending(), 0);
        Due.is("kept", x.kept(), 0);
        Due.is("savedStates", x.savedStates(), 0);
        Due.notNow(x, "publish of an empty list", x::publish);
    }

    /** "0 to 29"; "if there is no such street" */
    private static void promise2Streets() {
        for (int s : new int[] {0, 29}) {
            StreetEditions x = new StreetEditions();
            Due.is("add(" + s + ")", x.add(s), 1);
            Due.is("where(" + s + ")", x.where(s), 1);
            Due.is("draft", x.draft(), 1);
        }
        StreetEditions x = new StreetEditions();
        for (int s : new int[] {-1, 30, -32, 32, Integer.MIN_VALUE, Integer.MAX_VALUE}) {
            Due.noSuch(x, "add(" + s + ")", () -> x.add(s));
        }
    }

    /** "Returns the number of streets in the draft." */
    private static void promise2ReturnsTheStreetsInTheDraft() {
        StreetEditions x = Do.withPublished(3);
        x.crossOut(1);
        x.crossOut(2);
        Due.is("the draft, not the published list", x.add(2), 2);
        StreetEditions y = new StreetEditions();
        for (int s = 29; s >= 0; s--) {
            Due.is("add(" + s + ")", y.add(s), 30 - s);
        }
    }

    /** "if it is in the draft" */
    private static void promise2ThrowsIfItIsInTheDraft() {
        StreetEditions x = Do.after("+0;+29;p;-29;+1");
        Due.notNow(x, "add of one that is in both", () -> x.add(0));
        Due.notNow(x, "add of one in the draft only", () -> x.add(1));
        Due.is("add of one in the published list only", x.add(29), 3);
        Due.is("add of one that is nowhere", x.add(2), 4);
        Due.notNow(x, "add of it again", () -> x.add(2));
        StreetEditions all = new StreetEditions();
        Do.addFirst(all, 29);
        Due.is("add of the last one", all.add(29), 30);
        for (int s : new int[] {0, 29}) {
            Due.notNow(all, "add(" + s + ") to all", () -> all.add(s));
        }
    }

    /** "0 to 29"; "if there is no such street" */
    private static void promise3Streets() {
        StreetEditions x = new StreetEditions();
        Do.addFirst(x, 30);
        for (int s : new int[] {-1, 30, -32, 32, Integer.MIN_VALUE, Integer.MAX_VALUE}) {
            Due.noSuch(x, "crossOut(" + s + ")", () -> x.crossOut(s));
        }
        Due.is("crossOut(0)", x.crossOut(0), 29);
        Due.is("where(0)", x.where(0), 0);
        Due.is("crossOut(29)", x.crossOut(29), 28);
        Due.is("where(29)", x.where(29), 0);
    }

    /** "Returns the number of streets in the draft." */
    private static void promise3ReturnsTheStreetsInTheDraft() {
        StreetEditions x = Do.withPublished(30);
        for (int s = 29; s >= 0; s--) {
            Due.is("crossOut(" + s + ")", x.crossOut(s), s);
        }
        Due.is("the published list stays", x.published(), 30);
    }

    /** "if it is not in the draft" */
    private static void promise3ThrowsIfItIsNotInTheDraft() {
        StreetEditions none = new StreetEditions();
        for (int s : new int[] {0, 29}) {
            Due.notNow(none, "crossOut(" + s + ") of none", () -> none.crossOut(s));
        }
        StreetEditions x = Do.after("+0;+29;p;-29;+1");
        Due.notNow(x, "crossOut of one that is nowhere", () -> x.crossOut(2));
        Due.notNow(x, "crossOut of one in the published list only", () -> x.crossOut(29));
        Due.is("crossOut of one that is in both", x.crossOut(0), 1);
        Due.is("crossOut of one in the draft only", x.crossOut(1), 0);
        Due.notNow(x, "crossOut of it again", () -> x.crossOut(1));
    }

    /** "Returns the new edition number." */
    private static void promise4ReturnsTheNewNumber() {
        Due.is("behind 0", Do.after("+0").publish(), 1);
        Due.is("behind 14", Do.after("+0;n14").publish(), 15);
        Due.is("behind 15", Do.after("+0;n15").publish(), 0);
    }

    /** "if the draft is the published list" */
    private static void promise4ThrowsIfTheDraftIsThePublishedList() {
        StreetEditions none = new StreetEditions();
        Due.notNow(none, "publish of nothing", none::publish);
        none.add(0);
        none.crossOut(0);
        Due.notNow(none, "publish of nothing again", none::publish);
        StreetEditions all = Do.withPublished(30);
        Due.notNow(all, "publish of the same", all::publish);
        all.crossOut(29);
        all.add(29);
        Due.notNow(all, "publish of what is the same again", all::publish);
        all.renumber(9);
        Due.notNow(all, "publish of the same by another number", all::publish);
        all.crossOut(29);
        Due.is("publish with one street less", all.publish(), 10);
        all.add(29);
        Due.is("publish with one street more", all.publish(), 11);
        Due.is("publish of as many streets", Do.after("+0;+29;p;-29;+28").publish(), 2);
        Due.is("publish of no street", Do.after("+0;p;-0").publish(), 2);
    }

    /** "0 to 15"; "if edition is out of range" */
    private static void promise5Editions() {
        StreetEditions x = new StreetEditions();
        x.renumber(7);
        for (int e : new int[] {-1, 16, -16, 23, Integer.MIN_VALUE, Integer.MAX_VALUE}) {
            Due.bad(x, "renumber(" + e + ")", () -> x.renumber(e));
        }
        Due.is("renumber(0)", x.renumber(0), 7);
        Due.is("edition", x.edition(), 0);
        Due.is("renumber(15)", x.renumber(15), 0);
        Due.is("edition then", x.edition(), 15);
    }

    /** "Returns the previous edition number." */
    private static void promise5ReturnsThePreviousNumber() {
        StreetEditions x = new StreetEditions();
        for (int e = 1; e <= 15; e++) {
            Due.is("renumber(" + e + ")", x.renumber(e), e - 1);
        }
        Due.is("renumber(0) of 15", x.renumber(0), 15);
    }

    /** "or is the present number" */
    private static void promise5ThrowsIfItIsThePresentNumber() {
        for (int number = 0; number <= 15; number++) {
            int present = number;
            StreetEditions x = new StreetEditions();
            if (present != 0) {
                x.renumber(present);
            }
            Due.bad(x, "renumber(" + present + ") of " + present, () -> x.renumber(present));
            Due.is("renumber to the next one", x.renumber((present + 1) % 16), present);
            Due.is("renumber back", x.renumber(present), (present + 1) % 16);
            Due.is("renumber to the one before", x.renumber((present + 15) % 16), present);
        }
    }

    /** "1 to 6"; "if count is out of range" */
    private static void promise6Counts() {
        StreetEditions x = new StreetEditions();
        for (int c : new int[] {0, 7, -1, Integer.MIN_VALUE, Integer.MAX_VALUE}) {
            Due.bad(x, "setKeep(" + c + ")", () -> x.setKeep(c));
        }
        x.setKeep(6);
        Do.publish(x, 7);
        Due.is("kept with 6", x.kept(), 6);
        Due.is("setKeep(1)", x.setKeep(1), 1);
        Do.publish(x, 2);
        Due.is("kept with 1", x.kept(), 1);
    }

    /** An object with six differences, which lead away from 0 to 5 and cost 2 to 7. */
    private static StreetEditions withSixDifferences() {
        StreetEditions x = new StreetEditions();
        x.setKeep(6);
        for (int e = 0; e < 6; e++) {
            for (int s = 0; s <= e; s++) {
                Do.toggle(x, s);
            }
            x.publish();
        }
        return x;
    }

    /** "older ones beyond that are dropped" */
    private static void promise6OlderOnesAreDropped() {
        for (int count = 1; count <= 6; count++) {
            StreetEditions x = withSixDifferences();
            Due.is("setKeep(" + count + ") of 6", x.setKeep(count), count);
            for (int d = 0; d < count; d++) {
                Due.is("from(" + d + ") of " + count, x.from(d), 6 - count + d);
                Due.is("cost(" + d + ") of " + count, x.cost(d), 6 - count + d + 2);
            }
        }
        StreetEditions x = new StreetEditions();
        Do.publish(x, 3);
        Due.is("setKeep(3) of 3", x.setKeep(3), 3);
        Due.is("no one is dropped", x.from(0), 0);
        Due.is("setKeep(2) of 3", x.setKeep(2), 2);
        Due.is("one is dropped", x.from(0), 1);
    }

    /** "Returns the number of differences that are kept then." */
    private static void promise6ReturnsTheDifferencesThatAreKeptThen() {
        for (int kept = 0; kept <= 6; kept++) {
            for (int count = 1; count <= 6; count++) {
                StreetEditions x = new StreetEditions();
                x.setKeep(6);
                Do.publish(x, kept);
                Due.is("setKeep(" + count + ") of " + kept, x.setKeep(count), Math.min(count, kept));
                Due.is("kept then", x.kept(), Math.min(count, kept));
                Do.publish(x, 1);
                Due.is("kept after one more", x.kept(), Math.min(count, kept + 1));
            }
        }
    }

    /** "Returns the edition number." */
    private static void promise7Edition() {
        StreetEditions x = new StreetEditions();
        Due.is("edition at first", x.edition(), 0);
        for (int e = 1; e <= 17; e++) {
            Do.publish(x, 1);
            Due.is("edition " + e, x.edition(), e % 16);
        }
        x.renumber(15);
        Due.is("edition 15", x.edition(), 15);
    }

    /** "Returns the number of streets in the draft." */
    private static void promise8Draft() {
        StreetEditions x = new StreetEditions();
        Due.is("draft of none", x.draft(), 0);
        Do.addFirst(x, 30);
        Due.is("draft of all", x.draft(), 30);
        x.crossOut(29);
        Due.is("draft of all but one", x.draft(), 29);
        Due.is("published is another list", x.published(), 0);
    }

    /** "Returns the number of streets in the published list." */
    private static void promise9Published() {
        StreetEditions x = Do.withPublished(30);
        Due.is("published, all", x.published(), 30);
        x.crossOut(29);
        Due.is("published, whatever the draft is", x.published(), 30);
        x.publish();
        Due.is("published, all but one", x.published(), 29);
    }

    /** "Returns 0 nowhere, 1 in the draft only, 2 in the published list only, 3 in both."; "0 to 29" */
    private static void promise10Where() {
        for (int s : new int[] {0, 1, 28, 29}) {
            StreetEditions x = new StreetEditions();
            Due.is("nowhere, " + s, x.where(s), 0);
            x.add(s);
            Due.is("in the draft only, " + s, x.where(s), 1);
            x.publish();
            Due.is("in both, " + s, x.where(s), 3);
            x.crossOut(s);
            Due.is("in the published list only, " + s, x.where(s), 2);
            x.publish();
            Due.is("nowhere again, " + s, x.where(s), 0);
        }
        StreetEditions x = Do.withPublished(30);
        for (int s : new int[] {-1, 30, 32, Integer.MIN_VALUE, Integer.MAX_VALUE}) {
            Due.noSuch(x, "where(" + s + ")", () -> x.where(s));
        }
    }

    /** "the number of streets that are in the draft or in the published list, but not in both" */
    private static void promise11Pending() {
        StreetEditions x = new StreetEditions();
        Due.is("none in any", x.pending(), 0);
        Do.addFirst(x, 30);
        Due.is("all in the draft", x.pending(), 30);
        x.publish();
        Due.is("all in both", x.pending(), 0);
        x.crossOut(0);
        Due.is("all but one in both", x.pending(), 1);
        for (int s = 1; s < 30; s++) {
            x.crossOut(s);
        }
        Due.is("all in the published list", x.pending(), 30);
        Due.is("one in each", Do.after("+0;p;-0;+29").pending(), 2);
    }

    /** "Returns the number of differences that are kept." */
    private static void promise12Kept() {
        StreetEditions x = new StreetEditions();
        x.setKeep(6);
        for (int e = 0; e <= 8; e++) {
            Due.is("kept after " + e, x.kept(), Math.min(e, 6));
            Do.publish(x, 1);
        }
    }

    /** "0 for the oldest one"; "Returns the edition number." */
    private static void promise13From() {
        StreetEditions x = Do.after("n15;+1;p;+2;p");
        Due.is("from 15", x.from(0), 15);
        Due.is("from 0", x.from(1), 0);
        x.setKeep(6);
        Do.publish(x, 5);
        for (int d = 0; d < 6; d++) {
            Due.is("from(" + d + ") of six", x.from(d), d);
        }
    }

    /** "if there is no such difference" */
    private static void promise13ThrowsWithoutSuchADifference() {
        for (int kept = 0; kept <= 6; kept++) {
            int none = kept;
            StreetEditions x = new StreetEditions();
            x.setKeep(6);
            Do.publish(x, kept);
            if (kept > 0) {
                Due.is("the last one of " + kept, x.from(kept - 1), kept - 1);
            }
            Due.noSuch(x, "from(" + none + ")", () -> x.from(none));
            Due.noSuch(x, "from(-1)", () -> x.from(-1));
        }
        StreetEditions x = Do.after("+1;p;+2;p;+3;p");
        x.setKeep(2);
        Due.noSuch(x, "from(2) of two", () -> x.from(2));
        x.renumber(0);
        Due.noSuch(x, "from(0) of none", () -> x.from(0));
        Due.noSuch(x, "from of the largest number", () -> x.from(Integer.MAX_VALUE));
        Due.noSuch(x, "from of the smallest number", () -> x.from(Integer.MIN_VALUE));
    }

    /** "0 for the oldest one"; "Returns the cost." */
    private static void promise14Cost() {
        StreetEditions x = withSixDifferences();
        for (int d = 0; d < 6; d++) {
            Due.is("cost(" + d + ") of six", x.cost(d), d + 2);
        }
        Do.texts(x, "+20;+21;+22;p");
        Due.is("the oldest one then", x.cost(0), 3);
        Due.is("the newest one then", x.cost(5), 4);
        Due.is("one street", Do.withPublished(1).cost(0), 2);
        Due.is("all 30 streets", Do.withPublished(30).cost(0), 31);
    }

    /** "if there is no such difference" */
    private static void promise14ThrowsWithoutSuchADifference() {
        for (int kept = 0; kept <= 6; kept++) {
            int none = kept;
            StreetEditions x = new StreetEditions();
            x.setKeep(6);
            Do.publish(x, kept);
            if (kept > 0) {
                Due.is("the last one of " + kept, x.cost(kept - 1), 2);
            }
            Due.noSuch(x, "cost(" + none + ")", () -> x.cost(none));
            Due.noSuch(x, "cost(-1)", () -> x.cost(-1));
        }
        StreetEditions x = Do.after("+1;p;+2;p;+3;p");
        x.setKeep(2);
        Due.noSuch(x, "cost(2) of two", () -> x.cost(2));
        x.renumber(0);
        Due.noSuch(x, "cost(0) of none", () -> x.cost(0));
        Due.noSuch(x, "cost of the largest number", () -> x.cost(Integer.MAX_VALUE));
        Due.noSuch(x, "cost of the smallest number", () -> x.cost(Integer.MIN_VALUE));
    }

    /** "Returns 1 if the first one is newer than the other one, -1 if it is older, 0 if they are the same." */
    private static void promise15Compare() {
        StreetEditions x = new StreetEditions();
        Due.is("compare(0, 0)", x.compare(0, 0), 0);
        Due.is("compare(15, 15)", x.compare(15, 15), 0);
        Due.is("compare(1, 0)", x.compare(1, 0), 1);
        Due.is("compare(7, 0)", x.compare(7, 0), 1);
        Due.is("compare(8, 0)", x.compare(8, 0), -1);
        Due.is("compare(15, 0)", x.compare(15, 0), -1);
        Due.is("compare(0, 15), round the end", x.compare(0, 15), 1);
        Due.is("compare(6, 15), round the end", x.compare(6, 15), 1);
        Due.is("compare(7, 15), round the end", x.compare(7, 15), -1);
        Due.is("compare(0, 9)", x.compare(0, 9), 1);
        Due.is("compare(0, 8)", x.compare(0, 8), -1);
        Due.is("compare(0, 1)", x.compare(0, 1), -1);
        x.renumber(9);
        Due.is("compare(1, 0), whatever the edition is", x.compare(1, 0), 1);
    }

    /** "0 to 15"; "if a number is out of range" */
    private static void promise15ThrowsIfANumberIsOutOfRange() {
        StreetEditions x = new StreetEditions();
        for (int n : new int[] {-1, 16, Integer.MIN_VALUE, Integer.MAX_VALUE}) {
            Due.bad(x, "compare(" + n + ", 0)", () -> x.compare(n, 0));
            Due.bad(x, "compare(" + n + ", 15)", () -> x.compare(n, 15));
            Due.bad(x, "compare(0, " + n + ")", () -> x.compare(0, n));
            Due.bad(x, "compare(15, " + n + ")", () -> x.compare(15, n));
            Due.bad(x, "compare(" + n + ", " + n + ")", () -> x.compare(n, n));
        }
        Due.is("compare(0, 15)", x.compare(0, 15), 1);
        Due.is("compare(15, 0)", x.compare(15, 0), -1);
    }
}
