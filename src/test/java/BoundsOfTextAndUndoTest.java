import java.math.BigInteger;

/** The ranges, the "Returns" and the "Throws" of promises 31 to 37, with what is just inside and just outside. */
public final class BoundsOfTextAndUndoTest {

    private static final String SIXTY = "+0;+1;+2;+3;+4;+5;+6;+7;+8;+9;+10;+11;+12;+13;+14;+15;+16;+1";

    public static void main(String[] args) {
        promise31Codes();
        promise31ReturnsTheNewLength();
        promise31ThrowsIfTheBufferContains60();
        promise32ReturnsTheLengthThatItHad();
        promise32EmptiesTheBuffer();
        promise33TheIndexOfTheFirstError();
        promise33TheLengthIfThereIsNone();
        promise34UpToTheFirstOneThatWouldThrow();
        promise34OneAfterTheOther();
        promise34EmptiesTheBuffer();
        promise34ReturnsHowManyAreExecuted();
        promise34UndoableAsOneCall();
        promise34UndoableAlsoIfNoOrderIsExecuted();
        promise34ThrowsIfTheTextIsNotComplete();
        promise35RestoresTheStateThatWasSavedLast();
        promise35ReturnsHowManyAreLeft();
        promise35ThrowsIfNoStateIsSaved();
        promise36From0To6();
        promise37StartsAt4691();
        promise37EachValue();
        promise37StreetAfterStreet();
        promise37EachKeptDifference();
        promise37Overflows();
        Due.end("BoundsOfTextAndUndoTest");
    }

    /** "a character code, 33 to 126"; "if code is out of range" */
    private static void promise31Codes() {
        StreetEditions x = new StreetEditions();
        for (int code : new int[] {32, 127, 0, -1, 65536 + 33, Integer.MIN_VALUE, Integer.MAX_VALUE}) {
            Due.bad(x, "append(" + code + ")", () -> x.append(code));
        }
        Due.is("append(33)", x.append(33), 1);
        Due.is("append(126)", x.append(126), 2);
    }

    /** "Returns the new length of the buffer." */
    private static void promise31ReturnsTheNewLength() {
        StreetEditions x = new StreetEditions();
        for (int length = 1; length <= 60; length++) {
            Due.is("append to " + length, x.append(length % 2 == 0 ? ';' : 'p'), length);
        }
        x.clearText();
        Due.is("append to the empty buffer", x.append('p'), 1);
        x.run();
        Due.is("append after run", x.append('p'), 1);
    }

    /** "if the buffer contains 60 characters" */
    private static void promise31ThrowsIfTheBufferContains60() {
        StreetEditions x = Do.typed(SIXTY.substring(0, 59));
        Due.is("append to 59", x.append('1'), 60);
        Due.notNow(x, "append to 60", () -> x.append('1'));
        Due.notNow(x, "append of an error to 60", () -> x.append('~'));
        Due.is("firstError of the 60", x.firstError(), 60);
        Due.is("run of the 60", x.run(), 17);
    }

    /** "Returns the length that it had." */
    private static void promise32ReturnsTheLengthThatItHad() {
        for (int length : new int[] {0, 1, 59, 60}) {
            StreetEditions x = Do.typed(SIXTY.substring(0, length));
            Due.is("clearText of " + length, x.clearText(), length);
        }
    }

    /** "Empties the buffer." */
    private static void promise32EmptiesTheBuffer() {
        StreetEditions x = Do.typed("+1;x");
        x.clearText();
        Due.is("clearText then", x.clearText(), 0);
        Due.is("firstError then", x.firstError(), 0);
        Due.bad(x, "run then", x::run);
        Do.type(x, "+2");
        Due.is("run of what comes then", x.run(), 1);
        Due.is("where(1)", x.where(1), 0);
        Due.is("where(2)", x.where(2), 1);
        StreetEditions full = Do.typed(SIXTY);
        full.clearText();
        Do.type(full, SIXTY);
        Due.is("60 characters again", full.clearText(), 60);
    }

    private static void errorAt(int index, String text) {
        StreetEditions x = Do.typed(text);
        String before = Seen.all(x);
        Due.is("firstError of " + text, x.firstError(), index);
        Due.is("everything after firstError of " + text, Seen.all(x), before);
        Due.is("the length after firstError of " + text, x.clearText(), text.length());
    }

    /** "Returns the index of the first character that is an error" */
    private static void promise33TheIndexOfTheFirstError() {
        errorAt(0, ";");
        errorAt(0, "x+1");
        errorAt(1, "pp");
        errorAt(1, "+;");
        errorAt(2, "+30");
        errorAt(2, "n16");
        errorAt(3, "+290");
        errorAt(58, SIXTY.substring(0, 58) + ";;");
        errorAt(59, SIXTY.substring(0, 58) + "+;");
        errorAt(59, SIXTY.substring(0, 58) + "p+");
        errorAt(1, "+x;y;z");
    }

    /** "the length of the buffer if there is none (also if the buffer is not a complete order text)" */
    private static void promise33TheLengthIfThereIsNone() {
        errorAt(0, "");
        errorAt(1, "p");
        errorAt(1, "+");
        errorAt(2, "+2");
        errorAt(3, "+29");
        errorAt(2, "p;");
        errorAt(59, SIXTY.substring(0, 59));
        errorAt(60, SIXTY);
        errorAt(60, SIXTY.substring(0, 58) + "p;");
        errorAt(60, SIXTY.substring(0, 58) + "+1");
        errorAt(60, SIXTY.substring(0, 57) + ";p;");
    }

    private static void runs(String before, String text, int executed, String... orders) {
        StreetEditions x = Do.after(before);
        Do.type(x, text);
        Due.is("run of " + text + " after " + before, x.run(), executed);
        Due.is("orders of " + text, orders.length, executed);
        StreetEditions y = Do.after(before);
        for (String order : orders) {
            Do.texts(y, order);
        }
        Due.is("the state after " + before + ";" + text, Seen.state(x), Seen.state(y));
    }

    /** "up to the first one whose method would throw an exception" */
    private static void promise34UpToTheFirstOneThatWouldThrow() {
        runs("+1", "+2;+1;+3", 1, "+2");
        runs("+1", "-1;-1;+3", 1, "-1");
        runs("+1", "p;p;+3", 1, "p");
        runs("+1", "n15;n15;n14", 1, "n15");
        runs("+1", "n15;n0;n0;n14", 2, "n15", "n0");
        runs("+1", "s3;r3;+3", 1, "s3");
        runs("+1", "s3;s3;+3", 1, "s3");
        runs("+1", "s3;w3;w3;+3", 2, "s3", "w3");
        runs("+1", "+2;-2;p;-1;p;+2;p;r0;+3;+3", 9, "+2", "-2", "p", "-1", "p", "+2", "p", "r0", "+3");
    }

    /** "one after the other" */
    private static void promise34OneAfterTheOther() {
        runs("+1", "p;r0;+2;r1;p;r0", 6, "p", "r0", "+2", "r1", "p", "r0");
        runs("+1", "s0;p;w0;s1;n9;w1", 6, "s0", "p", "w0", "s1", "n9", "w1");
        runs("+1", "n15;p;r0;r0;n14;r0", 6, "n15", "p", "r0", "r0", "n14", "r0");
        StreetEditions x = Do.typed("+1;+2;+3;p;r0;+4;p;r0;s0;-1;p");
        Due.is("run", x.run(), 11);
        Due.is("refreshed on the way", x.costs(0), 4 + 2);
        Due.is("what they have then", x.streets(0), 4);
        Due.is("asleep, without the last notice", x.attention(0), 2);
        Due.is("the edition of the end", x.edition(), 3);
    }

    /** "and empties the buffer" */
    private static void promise34EmptiesTheBuffer() {
        for (String text : new String[] {"p", "+1;p", "+1;+1;p", SIXTY}) {
            StreetEditions x = Do.typed(text);
            x.run();
            Due.is("the buffer after " + text, x.clearText(), 0);
            Due.bad(x, "run again after " + text, x::run);
        }
    }

    /** "Returns the number of orders that are executed." */
    private static void promise34ReturnsHowManyAreExecuted() {
        Due.is("none", Do.typed("p").run(), 0);
        Due.is("none of 30", Do.typed("p;p;p;p;p;p;p;p;p;p;p;p;p;p;p;p;p;p;p;p;p;p;p;p;p;p;p;p;p;p").run(), 0);
        Due.is("one", Do.typed("+1").run(), 1);
        Due.is("one of two", Do.typed("+1;+1").run(), 1);
        Due.is("all 24", Do.typed("+0;p;-0;p;+0;p;-0;p;+0;p;-0;p;+0;p;-0;p;+0;p;-0;p;+0;p;-0;p").run(), 24);
        Due.is("all but the last", Do.typed("+0;p;-0;p;+0;p;-0;p;+0;p;-0;p;+0;p;-0;p;+0;p;-0;p;+0;p;p;p").run(), 22);
    }

    /** "Undoable, as one call" */
    private static void promise34UndoableAsOneCall() {
        StreetEditions x = Do.after("+1");
        String before = Seen.state(x);
        Do.type(x, "+2;+3;p;r0;s1;n9;+4;-1;p");
        Due.is("run", x.run(), 9);
        Due.is("savedStates", x.savedStates(), 2);
        Due.is("undo", x.undo(), 1);
        Due.is("the state from before", Seen.state(x), before);
        for (int i = 0; i < 7; i++) {
            Do.texts(x, "+2;-2");
        }
        Due.is("savedStates after seven", x.savedStates(), 6);
    }

    /** "also if no order is executed" */
    private static void promise34UndoableAlsoIfNoOrderIsExecuted() {
        StreetEditions x = Do.typed("-1;+2");
        Due.is("run", x.run(), 0);
        Due.is("savedStates", x.savedStates(), 1);
        Due.is("undo", x.undo(), 0);
        Due.is("draft", x.draft(), 0);
    }

    /** "if the buffer is not a complete order text (the buffer stays)" */
    private static void promise34ThrowsIfTheTextIsNotComplete() {
        String[] texts = {"", "+", "-", "n", "r", "s", "w", ";", "p;", "p;+", "+1;p;n", "x", "pp", "+30", "+01", "n16",
            "n00", "r4", "p;;p", ";p", SIXTY.substring(0, 58) + "p;", SIXTY.substring(0, 58) + "pp"};
        for (String text : texts) {
            StreetEditions x = Do.typed(text);
            Due.bad(x, "run of " + text, x::run);
            Due.bad(x, "run of " + text + " again", x::run);
            Due.is("savedStates after " + text, x.savedStates(), 0);
            Due.is("draft after " + text, x.draft(), 0);
            Due.is("the length after " + text, x.clearText(), text.length());
        }
        StreetEditions x = Do.typed("+1;+2;+");
        Due.bad(x, "run of +1;+2;+", x::run);
        x.append('2');
        Due.is("firstError of what stayed and 2", x.firstError(), 8);
        x.append('9');
        Due.is("run of what stayed and 29", x.run(), 3);
        Due.is("where(29)", x.where(29), 1);
    }

    /** "Restores the state that was saved last, and removes it from the saved states." */
    private static void promise35RestoresTheStateThatWasSavedLast() {
        StreetEditions x = new StreetEditions();
        String[] before = new String[4];
        String[] texts = {"+1;p;r0", "s0;+2;p", "n9;+3", "p;r1;w0"};
        for (int i = 0; i < 4; i++) {
            before[i] = Seen.state(x);
            Do.texts(x, texts[i]);
        }
        for (int i = 3; i >= 2; i--) {
            x.undo();
            Due.is("the state from before " + texts[i], Seen.state(x), before[i]);
        }
        Do.texts(x, "n12");
        x.undo();
        Due.is("the state from before n12", Seen.state(x), before[2]);
        for (int i = 1; i >= 0; i--) {
            x.undo();
            Due.is("the state from before " + texts[i], Seen.state(x), before[i]);
        }
    }

    /** "Returns the number of saved states that are left." */
    private static void promise35ReturnsHowManyAreLeft() {
        for (int calls = 1; calls <= 8; calls++) {
            StreetEditions x = new StreetEditions();
            Do.addFirst(x, calls);
            for (int left = Math.min(calls, 6) - 1; left >= 0; left--) {
                Due.is("undo after " + calls, x.undo(), left);
                Due.is("savedStates then", x.savedStates(), left);
            }
        }
    }

    /** "if no state is saved" */
    private static void promise35ThrowsIfNoStateIsSaved() {
        StreetEditions x = new StreetEditions();
        Due.notNow(x, "undo at first", x::undo);
        x.add(1);
        Due.is("undo of one", x.undo(), 0);
        Due.notNow(x, "undo of none", x::undo);
        Do.addFirst(x, 7);
        for (int i = 0; i < 6; i++) {
            x.undo();
        }
        Due.notNow(x, "undo of a seventh", x::undo);
        Due.is("draft then", x.draft(), 1);
        Due.is("add then", x.add(29), 2);
        Due.is("undo then", x.undo(), 0);
    }

    /** "Returns the number of saved states, 0 to 6." */
    private static void promise36From0To6() {
        StreetEditions x = new StreetEditions();
        for (int s = 0; s <= 20; s++) {
            Due.is("savedStates after " + s, x.savedStates(), Math.min(s, 6));
            x.refreshAll();
        }
        for (int left = 5; left >= 0; left--) {
            x.undo();
            Due.is("savedStates, " + left + " left", x.savedStates(), left);
        }
    }

    /** "The hash starts at 4691. For each value v .. the hash becomes 31 * hash + v" */
    private static void promise37StartsAt4691() {
        long hash = 4691;
        long[] values = {0, 0, 0, 0, 0};
        for (long v : values) {
            hash = 31 * hash + v;
        }
        for (int f = 0; f < 4; f++) {
            for (long v : new long[] {-1, -1, 0, 0, 2, 1, -1}) {
                hash = 31 * hash + v;
            }
        }
        for (int i = 0; i < 30 * 5; i++) {
            hash = 31 * hash;
        }
        Due.is("digest of a new object", new StreetEditions().digest(), hash);
    }

    private static void digestIs(String when, StreetEditions x) {
        Due.is("digest " + when, x.digest(), Seen.digest(x));
    }

    /** "The values are: what edition(), draft(), published(), pending() and kept() return; .. for each follower what
     *  editionOf(), streets(), attention(), costs(), answer(), costToCome() and wrong() return" */
    private static void promise37EachValue() {
        digestIs("of edition 15", Do.after("n15"));
        digestIs("of a draft", Do.after("+0;+29"));
        digestIs("of a published list", Do.after("+0;+29;p;n0"));
        digestIs("of pending streets", Do.after("+0;+29;p;n0;-0;+1"));
        digestIs("of lists and their editions", Do.after("n9;r0;+1;p;r1;+2;p;r2;n12"));
        digestIs("of each attention", Do.after("s2;+1;p;r0;s3"));
        digestIs("of costs", Do.after("+1;+2;+3;p;r0;+4;p;r0;r1;r3"));
        digestIs("of each answer", Do.after("n9;r3;n0;+1;+2;+3;p;r0;r1;+4;p;r0"));
        digestIs("of one asleep with differences to come", Do.after("+1;+2;+3;p;r0;s0;+4;p"));
        digestIs("of a list that is wrong", Do.after("+1;+2;+3;p;r0;n0;-1;+5;p"));
    }

    /** "for each street what where() returns, and then for each follower 1 if it is in the list of the follower,
     *  otherwise 0" */
    private static void promise37StreetAfterStreet() {
        StreetEditions x = Do.after("+0;+29;p;r0;-29;+1;p;r3;+2");
        digestIs("of streets in some lists", x);
        x.throwAway(0);
        digestIs("of streets in one list", x);
        StreetEditions all = Do.withPublished(30);
        all.refresh(1);
        all.refresh(3);
        digestIs("of all streets", all);
        all.crossOut(29);
        digestIs("of a draft without the last one", all);
    }

    /** "for each kept difference, from the oldest one on, what from() and cost() return" */
    private static void promise37EachKeptDifference() {
        for (int editions = 0; editions <= 8; editions++) {
            StreetEditions x = new StreetEditions();
            x.setKeep(6);
            for (int e = 0; e < editions; e++) {
                for (int s = 0; s <= e; s++) {
                    Do.toggle(x, s);
                }
                x.publish();
            }
            digestIs("of " + x.kept() + " differences after " + editions, x);
        }
        StreetEditions x = Do.after("+1;p;+2;p;+3;+4;p");
        x.setKeep(2);
        digestIs("of two differences that are left", x);
        x.renumber(0);
        digestIs("of no difference that is left", x);
    }

    /** "in long arithmetic with overflow": as many values overflow a long many times. */
    private static void promise37Overflows() {
        BigInteger hash = BigInteger.valueOf(4691);
        BigInteger times = BigInteger.valueOf(31);
        int[] follower = {-1, -1, 0, 0, 2, 1, -1};
        for (int v = 0; v < 5 + 4 * 7 + 30 * 5; v++) {
            int value = v < 5 || v >= 5 + 4 * 7 ? 0 : follower[(v - 5) % 7];
            hash = hash.multiply(times).add(BigInteger.valueOf(value));
        }
        Due.is("longer than a long", hash.bitLength() > 64, true);
        Due.is("digest, the lowest 64 bits", new StreetEditions().digest(), hash.longValue());
    }
}
