/** Promises 1 to 15: the printer. */
public final class PrinterTest {

    public static void main(String[] args) {
        promise1NewObject();
        promise2Add();
        promise3CrossOut();
        promise4Publish();
        promise4PublishKeepsTheDifference();
        promise4NumbersGoRound();
        promise4NoticeForThoseAwake();
        promise5Renumber();
        promise6SetKeep();
        promise7To12Numbers();
        promise10Where();
        promise13And14Differences();
        promise15Compare();
        Due.end("PrinterTest");
    }

    private static void promise1NewObject() {
        StreetEditions x = new StreetEditions();
        Due.is("edition of a new object", x.edition(), 0);
        Due.is("draft of a new object", x.draft(), 0);
        Due.is("published of a new object", x.published(), 0);
        Due.is("pending of a new object", x.pending(), 0);
        Due.is("kept of a new object", x.kept(), 0);
        Due.is("savedStates of a new object", x.savedStates(), 0);
        Due.is("savedShare of a new object", x.savedShare(), 0.0);
        Due.is("firstError of a new object", x.firstError(), 0);
        Due.is("clearText of a new object", x.clearText(), 0);
        for (int f = 0; f < 4; f++) {
            Due.is("editionOf of a new object", x.editionOf(f), StreetEditions.NONE);
            Due.is("streets of a new object", x.streets(f), StreetEditions.NONE);
            Due.is("attention of a new object", x.attention(f), 0);
            Due.is("costs of a new object", x.costs(f), 0);
            Due.is("isRight of a new object", x.isRight(f), false);
        }
        StreetEditions other = new StreetEditions();
        other.add(3);
        Due.is("draft of one object beside another", x.draft(), 0);
    }

    private static void promise2Add() {
        StreetEditions x = new StreetEditions();
        Due.is("add(0)", x.add(0), 1);
        Due.is("add(29)", x.add(29), 2);
        Due.is("where(0)", x.where(0), 1);
        Due.is("where(29)", x.where(29), 1);
        Due.is("where(1)", x.where(1), 0);
        Due.is("add leaves the published list", x.published(), 0);
        Due.is("add is undoable", x.savedStates(), 2);
        for (int street : new int[] {-1, 30, 31, 32, 61, Integer.MIN_VALUE, Integer.MAX_VALUE}) {
            Due.noSuch(x, "add(" + street + ")", () -> x.add(street));
        }
        Due.notNow(x, "add(29) again", () -> x.add(29));
        x.publish();
        Due.notNow(x, "add(0) after publish", () -> x.add(0));
        x.crossOut(0);
        Due.is("add(0) after crossOut", x.add(0), 2);
        for (int street = 1; street < 29; street++) {
            Due.is("add(" + street + ")", x.add(street), street + 2);
        }
    }

    private static void promise3CrossOut() {
        StreetEditions x = new StreetEditions();
        Due.notNow(x, "crossOut(5) of an empty draft", () -> x.crossOut(5));
        x.add(5);
        x.add(29);
        x.publish();
        Due.is("crossOut(29)", x.crossOut(29), 1);
        Due.is("where(29)", x.where(29), 2);
        Due.is("where(5)", x.where(5), 3);
        Due.is("crossOut is undoable", x.savedStates(), 4);
        Due.notNow(x, "crossOut(29) again", () -> x.crossOut(29));
        for (int street : new int[] {-1, 30, 37, Integer.MIN_VALUE, Integer.MAX_VALUE}) {
            Due.noSuch(x, "crossOut(" + street + ")", () -> x.crossOut(street));
        }
        Due.is("crossOut(5)", x.crossOut(5), 0);
    }

    private static void promise4Publish() {
        StreetEditions x = new StreetEditions();
        Due.notNow(x, "publish of nothing new", x::publish);
        x.add(7);
        Due.is("publish", x.publish(), 1);
        Due.is("published after it", x.published(), 1);
        Due.is("draft after it", x.draft(), 1);
        Due.is("where(7) after it", x.where(7), 3);
        Due.is("publish is undoable", x.savedStates(), 2);
        Due.notNow(x, "publish again", x::publish);
        x.add(8);
        x.crossOut(8);
        Due.notNow(x, "publish of a draft that came back", x::publish);
        x.crossOut(7);
        Due.is("publish of an empty draft", x.publish(), 2);
        Due.is("published then", x.published(), 0);
    }

    private static void promise4PublishKeepsTheDifference() {
        StreetEditions x = new StreetEditions();
        Do.texts(x, "+1;+2;+3;p;-1;-2;+4;p");
        Due.is("kept", x.kept(), 2);
        Due.is("cost of three added", x.cost(0), 4);
        Due.is("cost of two crossed out, one added", x.cost(1), 4);
        Do.texts(x, "+1;p;+2;p");
        Due.is("kept is 3 at first", x.kept(), 3);
        Due.is("the oldest one is dropped", x.from(0), 1);
        Due.is("its cost goes with it", x.cost(0), 4);
        Due.is("the newest one", x.from(2), 3);
        Due.is("its cost", x.cost(2), 2);
    }

    private static void promise4NumbersGoRound() {
        StreetEditions x = new StreetEditions();
        for (int e = 1; e <= 17; e++) {
            x.add(e);
            Due.is("publish number " + e, x.publish(), e % 16);
        }
        Due.is("from round the end, 0", x.from(0), 14);
        Due.is("from round the end, 1", x.from(1), 15);
        Due.is("from round the end, 2", x.from(2), 0);
    }

    private static void promise4NoticeForThoseAwake() {
        StreetEditions x = new StreetEditions();
        x.sleep(1);
        x.add(1);
        Due.is("no notice of a draft", x.attention(0), 0);
        x.publish();
        Due.is("a notice for one awake", x.attention(0), 1);
        Due.is("none for one asleep", x.attention(1), 2);
        Due.is("a notice for the last one", x.attention(3), 1);
    }

    private static void promise5Renumber() {
        StreetEditions x = new StreetEditions();
        x.sleep(2);
        Do.texts(x, "+1;p;+2");
        Do.texts(x, "r0;r1;r3");
        for (int edition : new int[] {-1, 16, 17, 1, Integer.MIN_VALUE, Integer.MAX_VALUE}) {
            Due.bad(x, "renumber(" + edition + ")", () -> x.renumber(edition));
        }
        int saved = x.savedStates();
        Due.is("renumber(15)", x.renumber(15), 1);
        Due.is("renumber is undoable", x.savedStates(), saved + 1);
        Due.is("edition", x.edition(), 15);
        Due.is("kept", x.kept(), 0);
        Due.is("the draft stays", x.draft(), 2);
        Due.is("the published list stays", x.published(), 1);
        Due.is("the followers' lists stay", x.isRight(0), true);
        Due.is("their editions too", x.editionOf(0), 1);
        Due.is("a notice for one awake", x.attention(3), 1);
        Due.is("none for one asleep", x.attention(2), 2);
        Due.is("publish behind 15", x.publish(), 0);
        Due.is("from", x.from(0), 15);
        Due.is("renumber(15) again", x.renumber(15), 0);
        Due.is("renumber(0)", x.renumber(0), 15);
    }

    private static void promise6SetKeep() {
        StreetEditions x = new StreetEditions();
        for (int count : new int[] {0, 7, -1, Integer.MIN_VALUE, Integer.MAX_VALUE}) {
            Due.bad(x, "setKeep(" + count + ")", () -> x.setKeep(count));
        }
        Due.is("setKeep(6) of nothing", x.setKeep(6), 0);
        Due.is("setKeep is undoable", x.savedStates(), 1);
        Do.texts(x, "+1;p;+2;p;+3;p;+4;+14;p;+5;p;+6;p;+7;p");
        Due.is("six are kept", x.kept(), 6);
        Due.is("the oldest of six", x.from(0), 1);
        Due.is("setKeep(6) again", x.setKeep(6), 6);
        Due.is("setKeep(4)", x.setKeep(4), 4);
        Due.is("the oldest of four", x.from(0), 3);
        Due.is("its cost", x.cost(0), 3);
        Due.is("the newest of four", x.from(3), 6);
        Due.is("setKeep(1)", x.setKeep(1), 1);
        Due.is("the only one", x.from(0), 6);
        Due.is("setKeep(5) brings none back", x.setKeep(5), 1);
        Due.is("setKeep(1) again", x.setKeep(1), 1);
        Do.texts(x, "+8;+9;p");
        Due.is("one is kept", x.kept(), 1);
        Due.is("the newest one", x.from(0), 7);
        Due.is("its cost", x.cost(0), 3);
        x.renumber(0);
        Due.is("setKeep(2) of nothing", x.setKeep(2), 0);
    }

    private static void promise7To12Numbers() {
        StreetEditions x = new StreetEditions();
        Do.texts(x, "+1;+2;+3;p;-1;-2;+4;+5;+6");
        Due.is("edition", x.edition(), 1);
        Due.is("draft", x.draft(), 4);
        Due.is("published", x.published(), 3);
        Due.is("pending", x.pending(), 5);
        Due.is("kept", x.kept(), 1);
        x.publish();
        Due.is("edition then", x.edition(), 2);
        Due.is("published then", x.published(), 4);
        Due.is("pending then", x.pending(), 0);
        Due.is("kept then", x.kept(), 2);
    }

    private static void promise10Where() {
        StreetEditions x = new StreetEditions();
        Do.texts(x, "+0;+29;p;-0;+17");
        Due.is("where(0)", x.where(0), 2);
        Due.is("where(29)", x.where(29), 3);
        Due.is("where(17)", x.where(17), 1);
        Due.is("where(1)", x.where(1), 0);
        for (int street : new int[] {-1, 30, 32, Integer.MIN_VALUE, Integer.MAX_VALUE}) {
            Due.noSuch(x, "where(" + street + ")", () -> x.where(street));
        }
    }

    private static void promise13And14Differences() {
        StreetEditions x = new StreetEditions();
        Due.noSuch(x, "from(0) of none", () -> x.from(0));
        Due.noSuch(x, "cost(0) of none", () -> x.cost(0));
        Do.texts(x, "n9;+1;+2;p;-1;+3;+4;p");
        Due.is("from(0)", x.from(0), 9);
        Due.is("from(1)", x.from(1), 10);
        Due.is("cost(0)", x.cost(0), 3);
        Due.is("cost(1)", x.cost(1), 4);
        for (int difference : new int[] {-1, 2, 5, 6, Integer.MIN_VALUE, Integer.MAX_VALUE}) {
            Due.noSuch(x, "from(" + difference + ")", () -> x.from(difference));
            Due.noSuch(x, "cost(" + difference + ")", () -> x.cost(difference));
        }
    }

    private static void promise15Compare() {
        StreetEditions x = new StreetEditions();
        for (int one = 0; one < 16; one++) {
            for (int other = 0; other < 16; other++) {
                int ahead = (one - other + 16) % 16;
                int due = ahead == 0 ? 0 : ahead <= 7 ? 1 : -1;
                Due.is("compare(" + one + ", " + other + ")", x.compare(one, other), due);
            }
        }
        Due.is("compare(7, 0)", x.compare(7, 0), 1);
        Due.is("compare(8, 0)", x.compare(8, 0), -1);
        Due.is("compare(0, 8)", x.compare(0, 8), -1);
        Due.is("compare(0, 15)", x.compare(0, 15), 1);
        Due.bad(x, "compare(-1, 0)", () -> x.compare(-1, 0));
        Due.bad(x, "compare(16, 0)", () -> x.compare(16, 0));
        Due.bad(x, "compare(0, -1)", () -> x.compare(0, -1));
        Due.bad(x, "compare(0, 16)", () -> x.compare(0, 16));
        Due.bad(x, "compare(16, 16)", () -> x.compare(16, 16));
    }
}
