/** The sentences of the document's Terms on undo and exceptions, and on calls that change nothing, one test each. */
public final class TermsOfUndoTest {

    private interface Step {
        int on(StreetEditions x);
    }

    public static void main(String[] args) {
        theStateIsEverything();
        exceptTheBuffer();
        exceptTheSavedStates();
        undoableMethodsSaveTheStateFromBefore();
        evenIfNothingChanges();
        ifTheyDoNotThrow();
        otherMethodsSaveNothing();
        atMost6StatesAreSaved();
        theOldestIsDiscarded();
        moreThan6ThenUndoThenMore();
        aCallThatThrowsChangesNothing();
        theExceptionThatIsListedFirst();
        askingChangesNothing();
        thereIsNoSuchNumber();
        Due.end("TermsOfUndoTest");
    }

    private static StreetEditions busyAnd(Step... steps) {
        return then(Do.busy(), steps);
    }

    private static StreetEditions then(StreetEditions x, Step... steps) {
        for (Step s : steps) {
            s.on(x);
        }
        return x;
    }

    private static void comesBack(String what, Step step) {
        StreetEditions x = Do.busy();
        String before = Seen.state(x);
        step.on(x);
        Due.is("savedStates after " + what, x.savedStates(), 4);
        Due.is("undo of " + what, x.undo(), 3);
        Due.is("the state after undo of " + what, Seen.state(x), before);
        Due.is("everything after undo of " + what,
                Deep.of(() -> busyAnd(step, y -> y.undo(), y -> y.clearText())),
                Deep.of(() -> busyAnd(y -> y.clearText())));
    }

    /** "The state consists of everything" */
    private static void theStateIsEverything() {
        comesBack("add", x -> x.add(0));
        comesBack("crossOut", x -> x.crossOut(3));
        comesBack("publish", x -> x.publish());
        comesBack("renumber", x -> x.renumber(15));
        comesBack("setKeep(1)", x -> x.setKeep(1));
        comesBack("setKeep(6)", x -> x.setKeep(6));
        comesBack("refresh with differences", x -> x.refresh(0));
        comesBack("refresh with the whole list", x -> x.refresh(2));
        comesBack("refreshAll", x -> x.refreshAll());
        comesBack("sleep", x -> x.sleep(2));
        comesBack("wake", x -> x.wake(1));
        comesBack("throwAway", x -> x.throwAway(1));
        comesBack("run", x -> x.run());
    }

    /** "except the buffer" */
    private static void exceptTheBuffer() {
        StreetEditions x = new StreetEditions();
        x.add(1);
        Do.type(x, "+2");
        x.undo();
        Due.is("characters from after the saved state", x.clearText(), 2);
        Do.type(x, "+3");
        x.add(1);
        x.clearText();
        x.undo();
        Due.is("characters that are gone", x.clearText(), 0);
        Do.type(x, "+4");
        x.run();
        x.undo();
        Due.is("characters that were run", x.clearText(), 0);
        Do.type(x, "+5");
        x.add(1);
        x.undo();
        x.append('5');
        Due.is("firstError of +55", x.firstError(), 2);
    }

    /** "and the saved states" */
    private static void exceptTheSavedStates() {
        StreetEditions x = Do.after("+1", "+2", "+3");
        Due.is("undo of +3", x.undo(), 2);
        Due.is("savedStates then", x.savedStates(), 2);
        Due.is("undo of +2, not of undo", x.undo(), 1);
        Due.is("draft then", x.draft(), 1);
        x.add(9);
        Due.is("savedStates after another call", x.savedStates(), 2);
        Due.is("undo of it", x.undo(), 1);
        Due.is("undo of +1", x.undo(), 0);
        Due.is("draft at the end", x.draft(), 0);
    }

    /** "Each method that is marked "Undoable" saves the state from before the call" */
    private static void undoableMethodsSaveTheStateFromBefore() {
        Step[] steps = {x -> x.add(5), x -> x.publish(), x -> x.refresh(0), x -> x.crossOut(5), x -> x.setKeep(1),
            x -> x.renumber(9), x -> x.refreshAll(), x -> x.sleep(0), x -> x.wake(0), x -> x.throwAway(0),
            x -> x.append('+') + x.append('6') + x.run()};
        for (int s = 0; s < steps.length; s++) {
            StreetEditions x = new StreetEditions();
            String before = "";
            for (int t = 0; t <= s; t++) {
                before = Seen.state(x);
                int saved = x.savedStates();
                steps[t].on(x);
                Due.is("savedStates after step " + t, x.savedStates(), Math.min(saved + 1, 6));
            }
            x.undo();
            Due.is("the state from before step " + s, Seen.state(x), before);
        }
    }

    private static void savesThoughNothingChanges(String what, StreetEditions x, Step step, int answer) {
        String before = Seen.state(x);
        int saved = x.savedStates();
        Due.is(what, step.on(x), answer);
        Due.is("the state after " + what, Seen.state(x), before);
        Due.is("savedStates after " + what, x.savedStates(), saved + 1);
        Due.is("undo of " + what, x.undo(), saved);
        Due.is("the state after undo of " + what, Seen.state(x), before);
    }

    /** "even if nothing changes" */
    private static void evenIfNothingChanges() {
        savesThoughNothingChanges("setKeep to the same", new StreetEditions(), x -> x.setKeep(3), 0);
        savesThoughNothingChanges("refresh with nothing", Do.after("r0"), x -> x.refresh(0), 0);
        savesThoughNothingChanges("refresh, refused", Do.after("n1;r0;n0;r0"), x -> x.refresh(0), 3);
        savesThoughNothingChanges("refreshAll of no one", new StreetEditions(), x -> x.refreshAll(), 0);
        savesThoughNothingChanges("throwAway of no list", new StreetEditions(), x -> x.throwAway(0), -1);
        savesThoughNothingChanges("run of no order", Do.typed("-1;+1"), x -> x.run(), 0);
        savesThoughNothingChanges("run of orders that change nothing in all", Do.typed("+1;-1"), x -> x.run(), 2);
    }

    /** "if it does not throw an exception" */
    private static void ifTheyDoNotThrow() {
        StreetEditions x = Do.after("+1;p;s3");
        Due.noSuch(x, "add(30)", () -> x.add(30));
        Due.notNow(x, "add(1)", () -> x.add(1));
        Due.noSuch(x, "crossOut(30)", () -> x.crossOut(30));
        Due.notNow(x, "crossOut(2)", () -> x.crossOut(2));
        Due.notNow(x, "publish()", () -> x.publish());
        Due.bad(x, "renumber(1)", () -> x.renumber(1));
        Due.bad(x, "setKeep(0)", () -> x.setKeep(0));
        Due.noSuch(x, "refresh(4)", () -> x.refresh(4));
        Due.notNow(x, "refresh(3)", () -> x.refresh(3));
        Due.noSuch(x, "sleep(4)", () -> x.sleep(4));
        Due.notNow(x, "sleep(3)", () -> x.sleep(3));
        Due.noSuch(x, "wake(4)", () -> x.wake(4));
        Due.notNow(x, "wake(0)", () -> x.wake(0));
        Due.noSuch(x, "throwAway(4)", () -> x.throwAway(4));
        Due.bad(x, "run()", () -> x.run());
        Due.is("savedStates after all these", x.savedStates(), 1);
        Due.is("undo", x.undo(), 0);
        Due.notNow(x, "undo()", () -> x.undo());
        Due.is("edition then", x.edition(), 0);
    }

    private static void otherMethodsSaveNothing() {
        StreetEditions x = Do.after("+1;p;r0");
        Step[] asking = asking();
        for (int a = 0; a < asking.length; a++) {
            asking[a].on(x);
            Due.is("savedStates after asking " + a, x.savedStates(), 1);
        }
        x.append('p');
        Due.is("savedStates after append", x.savedStates(), 1);
        x.clearText();
        Due.is("savedStates after clearText", x.savedStates(), 1);
    }

    /** "At most 6 states are saved" */
    private static void atMost6StatesAreSaved() {
        StreetEditions x = new StreetEditions();
        for (int s = 0; s <= 13; s++) {
            Due.is("savedStates after " + s, x.savedStates(), s < 6 ? s : 6);
            x.add(s);
        }
        for (int left = 5; left >= 0; left--) {
            Due.is("undo to " + left, x.undo(), left);
        }
        Due.notNow(x, "undo of the seventh", x::undo);
        Due.is("draft after 14 and 6", x.draft(), 8);
    }

    /** "when one more is saved, the oldest one is discarded" */
    private static void theOldestIsDiscarded() {
        for (int calls = 5; calls <= 8; calls++) {
            StreetEditions x = new StreetEditions();
            Do.addFirst(x, calls);
            int undone = 0;
            while (x.savedStates() > 0) {
                x.undo();
                undone++;
                Due.is("draft after " + calls + " and " + undone, x.draft(), calls - undone);
            }
            Due.is("undone of " + calls, undone, Math.min(calls, 6));
        }
    }

    private static void moreThan6ThenUndoThenMore() {
        StreetEditions x = new StreetEditions();
        Do.addFirst(x, 9);
        for (int u = 0; u < 4; u++) {
            x.undo();
        }
        Due.is("savedStates after 9 and 4", x.savedStates(), 2);
        for (int s = 10; s < 15; s++) {
            x.add(s);
        }
        Due.is("savedStates after 5 more", x.savedStates(), 6);
        for (int draft = 9; draft >= 4; draft--) {
            x.undo();
            Due.is("draft", x.draft(), draft);
        }
        Due.is("savedStates at the end", x.savedStates(), 0);
    }

    private static void changesNothing(String what, Deep.Maker maker, Class<? extends Exception> due, Step call) {
        StreetEditions x = maker.make();
        Due.is(what, Due.outcome(() -> call.on(x)), due.getSimpleName());
        Due.is("everything after " + what, Deep.of(() -> {
            StreetEditions y = maker.make();
            Due.outcome(() -> call.on(y));
            return y;
        }), Deep.of(maker));
    }

    /** "A call that throws an exception changes nothing." */
    private static void aCallThatThrowsChangesNothing() {
        Class<IndexOutOfBoundsException> noSuch = IndexOutOfBoundsException.class;
        for (int number : new int[] {-1, 30}) {
            changesNothing("add(" + number + ")", Do::busy, noSuch, x -> x.add(number));
            changesNothing("crossOut(" + number + ")", Do::busy, noSuch, x -> x.crossOut(number));
            changesNothing("where(" + number + ")", Do::busy, noSuch, x -> x.where(number));
            changesNothing("has(0, " + number + ")", Do::busy, noSuch, x -> x.has(0, number) ? 1 : 0);
        }
        for (int number : new int[] {-1, 4}) {
            changesNothing("refresh(" + number + ")", Do::busy, noSuch, x -> x.refresh(number));
            changesNothing("sleep(" + number + ")", Do::busy, noSuch, x -> x.sleep(number));
            changesNothing("wake(" + number + ")", Do::busy, noSuch, x -> x.wake(number));
            changesNothing("throwAway(" + number + ")", Do::busy, noSuch, x -> x.throwAway(number));
            changesNothing("editionOf(" + number + ")", Do::busy, noSuch, x -> x.editionOf(number));
            changesNothing("streets(" + number + ")", Do::busy, noSuch, x -> x.streets(number));
            changesNothing("has(" + number + ", 0)", Do::busy, noSuch, x -> x.has(number, 0) ? 1 : 0);
            changesNothing("isRight(" + number + ")", Do::busy, noSuch, x -> x.isRight(number) ? 1 : 0);
            changesNothing("attention(" + number + ")", Do::busy, noSuch, x -> x.attention(number));
            changesNothing("costs(" + number + ")", Do::busy, noSuch, x -> x.costs(number));
            changesNothing("answer(" + number + ")", Do::busy, noSuch, x -> x.answer(number));
            changesNothing("costToCome(" + number + ")", Do::busy, noSuch, x -> x.costToCome(number));
            changesNothing("wrong(" + number + ")", Do::busy, noSuch, x -> x.wrong(number));
        }
        for (int number : new int[] {-1, 2}) {
            changesNothing("from(" + number + ")", Do::busy, noSuch, x -> x.from(number));
            changesNothing("cost(" + number + ")", Do::busy, noSuch, x -> x.cost(number));
        }
        statesThatForbidACall();
        argumentsThatAreOutOfRange();
    }

    private static void statesThatForbidACall() {
        Class<IllegalStateException> notNow = IllegalStateException.class;
        changesNothing("add(3)", Do::busy, notNow, x -> x.add(3));
        changesNothing("crossOut(2)", Do::busy, notNow, x -> x.crossOut(2));
        changesNothing("publish()", () -> busyAnd(x -> x.publish()), notNow, x -> x.publish());
        changesNothing("refresh(1)", Do::busy, notNow, x -> x.refresh(1));
        changesNothing("sleep(1)", Do::busy, notNow, x -> x.sleep(1));
        changesNothing("wake(0)", Do::busy, notNow, x -> x.wake(0));
        changesNothing("undo()", () -> busyAnd(x -> x.undo(), x -> x.undo(), x -> x.undo()), notNow, x -> x.undo());
        changesNothing("append('p') to 60", TermsOfUndoTest::withFullBuffer, notNow, x -> x.append('p'));
    }

    private static void argumentsThatAreOutOfRange() {
        Class<IllegalArgumentException> bad = IllegalArgumentException.class;
        for (int edition : new int[] {-1, 16, 3}) {
            changesNothing("renumber(" + edition + ")", Do::busy, bad, x -> x.renumber(edition));
        }
        for (int count : new int[] {0, 7}) {
            changesNothing("setKeep(" + count + ")", Do::busy, bad, x -> x.setKeep(count));
        }
        for (int code : new int[] {32, 127}) {
            changesNothing("append(" + code + ")", Do::busy, bad, x -> x.append(code));
        }
        changesNothing("compare(0, 16)", Do::busy, bad, x -> x.compare(0, 16));
        changesNothing("run() of what is not complete", () -> busyAnd(x -> x.append(';')), bad, x -> x.run());
        changesNothing("run() of an error", () -> busyAnd(x -> x.append('x')), bad, x -> x.run());
        changesNothing("run() of nothing", () -> busyAnd(x -> x.clearText()), bad, x -> x.run());
    }

    private static StreetEditions withFullBuffer() {
        StreetEditions x = busyAnd(y -> y.clearText());
        Do.type(x, "+9;-9;+9;-9;+9;-9;+9;-9;+9;-9;+9;-9;+9;-9;+9;-9;+9;-9;+9;-10");
        return x;
    }

    /** "If more than one exception applies to a call, the one that is listed first in its throws clause is thrown." */
    private static void theExceptionThatIsListedFirst() {
        StreetEditions full = Do.typed("+0;+1;+2;+3;+4;+5;+6;+7;+8;+9;+10;+11;+12;+13;+14;+15;+16;+1");
        Due.bad(full, "append(32) to 60", () -> full.append(32));
        Due.bad(full, "append(127) to 60", () -> full.append(127));
        Due.notNow(full, "append(33) to 60", () -> full.append(33));
        Due.notNow(full, "append(126) to 60", () -> full.append(126));
        StreetEditions x = Do.after("s0;s1;s2;s3");
        for (int f : new int[] {-1, 4}) {
            Due.noSuch(x, "refresh(" + f + ") when all sleep", () -> x.refresh(f));
            Due.noSuch(x, "sleep(" + f + ") when all sleep", () -> x.sleep(f));
            Due.noSuch(x, "wake(" + f + ") when all sleep", () -> x.wake(f));
        }
        StreetEditions all = Do.withPublished(30);
        StreetEditions none = new StreetEditions();
        for (int s : new int[] {-1, 30}) {
            Due.noSuch(all, "add(" + s + ") to all", () -> all.add(s));
            Due.noSuch(none, "crossOut(" + s + ") of none", () -> none.crossOut(s));
            Due.noSuch(none, "wake(" + s + ") when no one sleeps", () -> none.wake(s));
        }
    }

    private static Step[] asking() {
        return new Step[] {x -> x.edition(), x -> x.draft(), x -> x.published(), x -> x.where(0), x -> x.pending(),
            x -> x.kept(), x -> x.from(0), x -> x.cost(0), x -> x.compare(0, 1), x -> x.editionOf(0),
            x -> x.streets(0), x -> x.has(0, 1) ? 1 : 0, x -> x.isRight(0) ? 1 : 0, x -> x.attention(0),
            x -> x.costs(0), x -> x.answer(0), x -> x.costToCome(0), x -> x.wrong(0), x -> (int) x.savedShare(),
            x -> x.firstError(), x -> x.savedStates(), x -> (int) x.digest(), x -> x.answer(1), x -> x.answer(2),
            x -> x.costToCome(1), x -> x.costToCome(2)};
    }

    /** "forecasts; they change nothing"; so do all calls that ask and are not marked. */
    private static void askingChangesNothing() {
        String due = Deep.of(Do::busy);
        Step[] asking = asking();
        for (int a = 0; a < asking.length; a++) {
            Step step = asking[a];
            Due.is("everything after asking " + a, Deep.of(() -> busyAnd(step)), due);
        }
    }

    /** "`NONE = -1`: There is no such number." */
    private static void thereIsNoSuchNumber() {
        Due.is("NONE", StreetEditions.NONE, -1);
    }
}
