/** Promises 31 to 34: the order text. */
public final class OrderTextTest {

    public static void main(String[] args) {
        promise31Append();
        promise32ClearText();
        promise33FirstError();
        promise33EveryCharacterBehindEveryBeginning();
        promise34RunsLikeTheCalls();
        promise34StopsBeforeARefusedOrder();
        promise34IncompleteTexts();
        promise34IsOneUndoableCall();
        promise34TextOfFullLength();
        Due.end("OrderTextTest");
    }

    private static void promise31Append() {
        StreetEditions x = new StreetEditions();
        Due.is("append(33)", x.append(33), 1);
        Due.is("append(126)", x.append(126), 2);
        Due.is("append is not undoable", x.savedStates(), 0);
        int[] outside = {32, 127, 0, -1, 128, 65536 + 40, Integer.MIN_VALUE, Integer.MAX_VALUE};
        for (int code : outside) {
            Due.bad(x, "append(" + code + ")", () -> x.append(code));
        }
        for (int i = 3; i <= 60; i++) {
            Due.is("append to " + i, x.append('p'), i);
        }
        Due.notNow(x, "append to 61", () -> x.append('p'));
        for (int code : outside) {
            Due.bad(x, "append(" + code + ") to 61", () -> x.append(code));
        }
        Due.is("length after all that", x.clearText(), 60);
    }

    private static void promise32ClearText() {
        StreetEditions x = new StreetEditions();
        Do.type(x, "+1;+2");
        Due.is("clearText", x.clearText(), 5);
        Due.is("clearText again", x.clearText(), 0);
        Due.is("clearText is not undoable", x.savedStates(), 0);
        Due.is("append then", x.append('+'), 1);
        Due.is("clearText then", x.clearText(), 1);
    }

    private static void errorAt(String text, int due) {
        StreetEditions x = new StreetEditions();
        Do.type(x, text);
        String before = Seen.all(x);
        Due.is("firstError of " + text, x.firstError(), due);
        Due.is("everything after firstError", Seen.all(x), before);
        Due.is("length after firstError", x.clearText(), text.length());
    }

    private static void promise33FirstError() {
        String[] without = {"", "p", "p;", "+", "-", "n", "r", "+0", "+29", "-10", "-19", "n15", "n0", "r3;s0;w1",
            "+1;-2;p;n3;r0;s1;w2;", "+2", "n1", "p;p;p"};
        for (String text : without) {
            errorAt(text, text.length());
        }
        errorAt(";", 0);
        errorAt("p;;", 2);
        errorAt("pp", 1);
        errorAt("p1", 1);
        errorAt("+;", 1);
        errorAt("+30", 2);
        errorAt("+00", 2);
        errorAt("+01", 2);
        errorAt("-290", 3);
        errorAt("-31", 2);
        errorAt("n16", 2);
        errorAt("n20", 2);
        errorAt("n00", 2);
        errorAt("n150", 3);
        errorAt("r4", 1);
        errorAt("r00", 2);
        errorAt("w;", 1);
        errorAt("x", 0);
        errorAt("P", 0);
        errorAt("p;+1;q;+;", 5);
        errorAt("0", 0);
    }

    /** Every character of the buffer behind texts that stand at every place of an order. */
    private static void promise33EveryCharacterBehindEveryBeginning() {
        String[] beginnings = {"", "p;", "+", "-", "+0", "+1", "-2", "+3", "+9", "+19", "-20", "n", "n0", "n1", "n2",
            "n15", "r", "s", "w", "r0", "p"};
        for (String beginning : beginnings) {
            for (int code = 33; code <= 126; code++) {
                String text = beginning + (char) code;
                errorAt(text, Plain.firstError(text));
            }
        }
    }

    private static void promise34RunsLikeTheCalls() {
        StreetEditions x = new StreetEditions();
        StreetEditions y = new StreetEditions();
        Do.type(x, "+0;+29;+10;p;-29;s3;r0;p;r0;w3;s2;n15;-0;p;r0;r1;s1");
        Due.is("run", x.run(), 17);
        Due.is("the buffer is empty then", x.clearText(), 0);
        y.add(0);
        y.add(29);
        y.add(10);
        y.publish();
        y.crossOut(29);
        y.sleep(3);
        y.refresh(0);
        y.publish();
        y.refresh(0);
        y.wake(3);
        y.sleep(2);
        y.renumber(15);
        y.crossOut(0);
        y.publish();
        y.refresh(0);
        y.refresh(1);
        y.sleep(1);
        Due.is("the same state as after the calls", Seen.state(x), Seen.state(y));
        Due.is("one saved state", x.savedStates(), 1);
    }

    private static void stopsAt(String text, int executed) {
        StreetEditions x = new StreetEditions();
        x.add(1);
        x.sleep(3);
        StreetEditions y = new StreetEditions();
        y.add(1);
        y.sleep(3);
        Do.type(x, text);
        Due.is("run of " + text, x.run(), executed);
        Due.is("the buffer is empty after " + text, x.clearText(), 0);
        Due.is("saved states after " + text, x.savedStates(), 3);
        String[] orders = text.split(";");
        for (int i = 0; i < executed; i++) {
            Do.type(y, orders[i]);
            y.run();
        }
        Due.is("the state after " + text, Seen.state(x), Seen.state(y));
    }

    private static void promise34StopsBeforeARefusedOrder() {
        stopsAt("+1;+2;p", 0);
        stopsAt("+2;+2;p", 1);
        stopsAt("-2;+2;p", 0);
        stopsAt("-1;-1;+2", 1);
        stopsAt("p;p;+2", 1);
        stopsAt("-1;p;+2", 1);
        stopsAt("n0;+2", 0);
        stopsAt("n3;n3;+2", 1);
        stopsAt("r3;+2", 0);
        stopsAt("s3;+2", 0);
        stopsAt("s2;s2;+2", 1);
        stopsAt("w2;+2", 0);
        stopsAt("w3;w3;+2", 1);
        stopsAt("w3;r3;s3;r3;+2", 3);
        stopsAt("+2;p;r0;+2;-2;p", 3);
    }

    private static void promise34IncompleteTexts() {
        String[] texts = {"", ";", "+", "-", "n", "r", "s", "w", "+1;", "p;", "p;+", "p;;p", "+30", "n16", "r4", "pp",
            "+1;x", "+01"};
        for (String text : texts) {
            StreetEditions x = new StreetEditions();
            Do.type(x, text);
            Due.bad(x, "run of " + text, x::run);
            Due.is("the buffer stays after " + text, x.clearText(), text.length());
        }
        StreetEditions x = new StreetEditions();
        Do.type(x, "+1;p;n");
        Due.bad(x, "run of +1;p;n", x::run);
        x.append('1');
        x.append('2');
        Due.is("run of the text, completed", x.run(), 3);
        Due.is("edition then", x.edition(), 12);
    }

    private static void promise34IsOneUndoableCall() {
        StreetEditions x = new StreetEditions();
        x.add(5);
        String before = Seen.state(x);
        Do.texts(x, "+1;+2;p;r0;+3;p;r0;n9;s1");
        Due.is("saved states", x.savedStates(), 2);
        Do.type(x, "+7");
        Due.is("undo", x.undo(), 1);
        Due.is("everything as before", Seen.state(x), before);
        Due.is("the buffer stays at undo", x.clearText(), 2);
        Do.type(x, "+5");
        Due.is("run of no order", x.run(), 0);
        Due.is("undoable also then", x.savedStates(), 2);
    }

    private static void promise34TextOfFullLength() {
        StreetEditions x = new StreetEditions();
        Do.type(x, "+0;-0;+0;-0;+0;-0;+0;-0;+0;-0;+0;-0;+0;-0;+0;-0;+0;-0;+0;-29");
        Due.is("firstError of 60 characters", x.firstError(), 60);
        Due.is("run of 60 characters", x.run(), 19);
        Due.is("draft then", x.draft(), 1);
        Do.type(x, "p;p;p;p;p;p;p;p;p;p;p;p;p;p;p;p;p;p;p;p;p;p;p;p;p;p;p;p;p;p;");
        Due.is("firstError of 60 that are not complete", x.firstError(), 60);
        Due.bad(x, "run of 60 that are not complete", x::run);
    }
}
