/** Promises 35 to 37: undo and the digest. */
public final class UndoTest {

    public static void main(String[] args) {
        promise35And36EachUndoableCall();
        promise35And36SixStates();
        promise35BringsBackWhatCannotBeSeen();
        promise35BringsBackTheDifferences();
        promise35Throws();
        promise36CallsThatSaveNothing();
        promise37Digest();
        promise37DigestAfterDifferences();
        promise37DigestOfANewObject();
        Due.end("UndoTest");
    }

    private static StreetEditions busy() {
        StreetEditions x = new StreetEditions();
        Do.texts(x, "+1;+2;+3;p;r0;r1;s1;s3;+4;p;-4;+6");
        return x;
    }

    private static void comesBack(StreetEditions x, String what, Due.Call call) {
        String before = Seen.state(x);
        int saved = x.savedStates();
        call.make();
        Due.is("savedStates after " + what, x.savedStates(), saved + 1);
        Due.is("undo of " + what, x.undo(), saved);
        Due.is("everything after undo of " + what, Seen.state(x), before);
    }

    private static void promise35And36EachUndoableCall() {
        StreetEditions x = busy();
        comesBack(x, "add", () -> x.add(0));
        comesBack(x, "crossOut", () -> x.crossOut(1));
        comesBack(x, "publish", x::publish);
        comesBack(x, "renumber", () -> x.renumber(12));
        comesBack(x, "setKeep", () -> x.setKeep(1));
        comesBack(x, "setKeep of the same", () -> x.setKeep(3));
        comesBack(x, "refresh with differences", () -> x.refresh(0));
        comesBack(x, "refresh with the whole list", () -> x.refresh(2));
        comesBack(x, "refreshAll", x::refreshAll);
        comesBack(x, "sleep", () -> x.sleep(2));
        comesBack(x, "wake", () -> x.wake(3));
        comesBack(x, "throwAway", () -> x.throwAway(0));
        comesBack(x, "throwAway of no list", () -> x.throwAway(3));
        Do.type(x, "p;r0;n9");
        comesBack(x, "run", x::run);
        Do.type(x, "+6");
        comesBack(x, "run of no order", x::run);
        x.refresh(0);
        x.refresh(2);
        comesBack(x, "refresh with nothing", () -> x.refresh(0));
        comesBack(x, "refreshAll of no one", x::refreshAll);
        x.renumber(0);
        comesBack(x, "refresh, refused", () -> x.refresh(0));
    }

    private static void promise35And36SixStates() {
        StreetEditions x = new StreetEditions();
        String[] before = new String[10];
        for (int i = 0; i < 9; i++) {
            before[i] = Seen.state(x);
            x.add(i);
            Due.is("savedStates after " + (i + 1), x.savedStates(), Math.min(i + 1, 6));
        }
        for (int i = 8; i >= 3; i--) {
            Due.is("undo to " + i, x.undo(), i - 3);
            Due.is("savedStates then", x.savedStates(), i - 3);
            Due.is("the state then", Seen.state(x), before[i]);
        }
        Due.notNow(x, "undo of a discarded state", x::undo);
        x.publish();
        x.add(20);
        Due.is("undo of a later call", x.undo(), 1);
        Due.is("draft then", x.draft(), 3);
    }

    private static void promise35BringsBackWhatCannotBeSeen() {
        StreetEditions x = new StreetEditions();
        x.setKeep(1);
        Due.is("undo of setKeep", x.undo(), 0);
        Do.texts(x, "+1;p;+2;p;+3;p;+4;p");
        Due.is("three are kept again", x.kept(), 3);
        Do.texts(x, "r0;+5;p");
        x.refresh(0);
        double share = x.savedShare();
        Do.texts(x, "+6;p;r0;r1");
        x.undo();
        Due.is("savedShare is back", x.savedShare(), share);
        Do.texts(x, "+7;+8;p");
        Due.is("and goes on from there", x.refresh(0), 1);
        // whole lists: 5 + 6 + 8, counted: 5 + 2 + 3
        Due.is("savedShare then", x.savedShare(), 1.0 - 10.0 / 19.0);
        Due.is("the differences are back, and apply", x.isRight(0), true);
    }

    private static void promise35BringsBackTheDifferences() {
        StreetEditions x = new StreetEditions();
        Do.texts(x, "+1;+2;+3;+4;+5;+6;+7;p;r0;r1;-1;+8;p;-2;+9;p");
        x.setKeep(1);
        Do.texts(x, "+10;+11;p;-3;-4;p");
        x.undo();
        x.undo();
        Due.is("kept", x.kept(), 3);
        Due.is("refresh with the differences from before", x.refresh(0), 1);
        Due.is("right", x.isRight(0), true);
        x.renumber(7);
        Do.texts(x, "+20;p;-20;p");
        x.undo();
        x.undo();
        Due.is("refresh with those from before renumber", x.refresh(1), 1);
        Due.is("right then", x.isRight(1), true);
    }

    private static void promise35Throws() {
        StreetEditions x = new StreetEditions();
        Due.notNow(x, "undo of nothing", x::undo);
        x.add(1);
        x.undo();
        Due.notNow(x, "undo after undo", x::undo);
    }

    private static void promise36CallsThatSaveNothing() {
        StreetEditions x = busy();
        int saved = x.savedStates();
        x.append('p');
        x.firstError();
        x.clearText();
        Seen.all(x);
        Due.is("savedStates", x.savedStates(), saved);
    }

    private static void promise37Digest() {
        StreetEditions x = busy();
        Due.is("digest", x.digest(), Seen.digest(x));
        Do.texts(x, "p;r0;w1;r1;n5;-1;p;+9");
        Due.is("digest then", x.digest(), Seen.digest(x));
        int saved = x.savedStates();
        long before = x.digest();
        Do.type(x, "p");
        Due.is("digest is not of the buffer", x.digest(), before);
        x.refreshAll();
        x.undo();
        Due.is("digest is not of the saved states", x.digest(), before);
        Due.is("savedStates", x.savedStates(), saved);
    }

    private static void promise37DigestAfterDifferences() {
        StreetEditions x = busy();
        Due.is("refresh with differences", x.refresh(0), 1);
        Due.is("digest with costs that are not those of whole lists", x.digest(), Seen.digest(x));
    }

    private static void promise37DigestOfANewObject() {
        long hash = 4691;
        for (int i = 0; i < 5; i++) {
            hash = 31 * hash;
        }
        for (int f = 0; f < 4; f++) {
            for (int v : new int[] {-1, -1, 0, 0, 2, 1, -1}) {
                hash = 31 * hash + v;
            }
        }
        for (int i = 0; i < 30 * 5; i++) {
            hash = 31 * hash;
        }
        Due.is("digest of a new object", new StreetEditions().digest(), hash);
    }
}
