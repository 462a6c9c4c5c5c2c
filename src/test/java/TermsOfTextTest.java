import java.util.function.ToIntFunction;

/** The sentences of the document's Terms on the order text, one test each. */
public final class TermsOfTextTest {

    public static void main(String[] args) {
        emptyAtFirst();
        atMost60Characters();
        oneOrMoreOrders();
        semicolonsBetweenThem();
        plusAndMinusAreLikeAddAndCrossOut();
        pAndNAreLikePublishAndRenumber();
        rSAndWAreLikeRefreshSleepAndWake();
        noOtherOrders();
        aDigitFrom0To3();
        streetsAre0To29WithoutLeadingZeros();
        editionNumbersAre0To15WithoutLeadingZeros();
        anErrorIfNoOrderTextBeginsSo();
        howeverLong();
        Due.end("TermsOfTextTest");
    }

    private static void complete(String text) {
        StreetEditions x = Do.typed(text);
        Due.is("firstError of " + text, x.firstError(), text.length());
        Due.is("a run of " + text, Due.outcome(x::run) instanceof Integer, true);
    }

    private static void beginning(String text) {
        StreetEditions x = Do.typed(text);
        Due.is("firstError of " + text, x.firstError(), text.length());
        Due.bad(x, "run of " + text, x::run);
    }

    private static void wrongAt(int index, String text) {
        StreetEditions x = Do.typed(text);
        Due.is("firstError of " + text, x.firstError(), index);
        Due.bad(x, "run of " + text, x::run);
    }

    /** "The buffer contains at most 60 characters and is empty at first." */
    private static void emptyAtFirst() {
        Due.is("clearText at first", new StreetEditions().clearText(), 0);
        Due.is("firstError at first", new StreetEditions().firstError(), 0);
        Due.is("append at first", new StreetEditions().append('p'), 1);
    }

    /** The same sentence: the 60th character and the 61st one. */
    private static void atMost60Characters() {
        StreetEditions x = Do.typed("p;n1;s0;s1;s2;s3;+0;+1;+2;+3;+4;+5;+6;+7;+8;+9;+10;+11;+12;");
        Due.is("59 characters, and one more", x.append('p'), 60);
        for (int code : new int[] {33, 'p', 126}) {
            Due.notNow(x, "append(" + code + ") to 60", () -> x.append(code));
        }
        Due.is("60 characters", x.clearText(), 60);
        Due.is("append to the empty buffer", x.append('p'), 1);
    }

    /** "An order text is one or more orders" */
    private static void oneOrMoreOrders() {
        beginning("");
        complete("p");
        complete("p;p");
        StringBuilder text = new StringBuilder("p");
        for (int orders = 2; orders <= 30; orders++) {
            text.append(";p");
        }
        Due.is("the length of 30 orders", text.length(), 59);
        complete(text.toString());
    }

    /** "with ";" between them" */
    private static void semicolonsBetweenThem() {
        complete("+1;-1");
        beginning("+1;-1;");
        wrongAt(0, ";");
        wrongAt(0, ";p");
        wrongAt(2, "p;;p");
        wrongAt(2, "p;;");
        wrongAt(1, "pp");
        wrongAt(1, "p,p");
        wrongAt(2, "r0r1");
        wrongAt(3, "+29+1");
        wrongAt(2, "+1-1");
        wrongAt(2, "n1n2");
        wrongAt(1, "p:p");
    }

    private static void alike(String before, String order, ToIntFunction<StreetEditions> call) {
        StreetEditions called = Do.after(before);
        boolean done = Due.outcome(() -> call.applyAsInt(called)) instanceof Integer;
        StreetEditions x = Do.after(before);
        Do.type(x, order);
        Due.is("run of " + order + " after " + before, x.run(), done ? 1 : 0);
        Due.is("the state after " + before + ";" + order, Seen.state(x), Seen.state(called));
        Due.is("saved states after " + before + ";" + order, x.savedStates(), 2);
    }

    /** ""+" and a street: like add(); "-" and a street: like crossOut();" */
    private static void plusAndMinusAreLikeAddAndCrossOut() {
        for (int s = 0; s < 30; s++) {
            int street = s;
            alike("n7", "+" + s, x -> x.add(street));
            alike("+" + s, "+" + s, x -> x.add(street));
            alike("+" + s + ";p", "-" + s, x -> x.crossOut(street));
            alike("n7", "-" + s, x -> x.crossOut(street));
        }
    }

    /** ""p": like publish(); "n" and an edition number: like renumber();" */
    private static void pAndNAreLikePublishAndRenumber() {
        alike("+1", "p", x -> x.publish());
        alike("+1;p", "p", x -> x.publish());
        alike("+1;p;-1", "p", x -> x.publish());
        for (int n = 0; n < 16; n++) {
            int edition = n;
            alike("n8;n7;+1;s1", "n" + n, x -> x.renumber(edition));
        }
    }

    /** ""r", "s" or "w" and a digit from 0 to 3: like refresh(), sleep() or wake() of a follower." */
    private static void rSAndWAreLikeRefreshSleepAndWake() {
        for (int f = 0; f < 4; f++) {
            int follower = f;
            for (String before : new String[] {"+1;p;s" + f, "+1;p", "+1;+2;p;r" + f + ";+3;p", "n8;r" + f + ";n0"}) {
                alike(before, "r" + f, x -> x.refresh(follower));
                alike(before, "s" + f, x -> x.sleep(follower));
                alike(before, "w" + f, x -> x.wake(follower));
            }
        }
    }

    private static void noOtherOrders() {
        for (int code = 33; code <= 126; code++) {
            boolean begins = "+-pnrsw".indexOf(code) >= 0;
            Due.is("firstError of " + (char) code, Do.typed("" + (char) code).firstError(), begins ? 1 : 0);
            Due.is("firstError of p;" + (char) code, Do.typed("p;" + (char) code).firstError(), begins ? 3 : 2);
        }
        wrongAt(1, "+x");
        wrongAt(1, "-;");
        wrongAt(1, "n;");
        wrongAt(1, "r;");
        wrongAt(1, "p0");
        wrongAt(0, "5");
    }

    /** "a digit from 0 to 3" */
    private static void aDigitFrom0To3() {
        for (char order : new char[] {'r', 's', 'w'}) {
            beginning("" + order);
            complete(order + "0");
            complete(order + "3");
            wrongAt(1, order + "4");
            wrongAt(1, order + "9");
            wrongAt(1, order + "/");
            wrongAt(2, order + "00");
            wrongAt(2, order + "03");
            wrongAt(2, order + "10");
        }
    }

    /** "Streets (0 to 29) .. have no leading zeros." */
    private static void streetsAre0To29WithoutLeadingZeros() {
        for (char order : new char[] {'+', '-'}) {
            beginning("" + order);
            for (int street = 0; street <= 29; street++) {
                complete("" + order + street);
            }
            for (int street = 30; street <= 99; street++) {
                wrongAt(2, "" + order + street);
            }
            for (int digit = 0; digit <= 9; digit++) {
                wrongAt(2, order + "0" + digit);
                wrongAt(3, order + "10" + digit);
                wrongAt(3, order + "29" + digit);
                wrongAt(2, order + "3" + digit);
            }
            wrongAt(1, order + "/");
            wrongAt(1, order + ":");
            wrongAt(2, order + "2/");
            wrongAt(2, order + "2:");
        }
    }

    /** "edition numbers (0 to 15) have no leading zeros" */
    private static void editionNumbersAre0To15WithoutLeadingZeros() {
        beginning("n");
        for (int edition = 0; edition <= 15; edition++) {
            complete("n" + edition);
        }
        for (int edition = 16; edition <= 99; edition++) {
            wrongAt(2, "n" + edition);
        }
        for (int digit = 0; digit <= 9; digit++) {
            wrongAt(2, "n0" + digit);
            wrongAt(3, "n10" + digit);
            wrongAt(3, "n15" + digit);
        }
        wrongAt(1, "n/");
        wrongAt(1, "n:");
        wrongAt(2, "n1/");
        wrongAt(2, "n1:");
    }

    /** "A character of the buffer is an error if no order text, however long, begins with the characters before it
     *  and this character." */
    private static void anErrorIfNoOrderTextBeginsSo() {
        beginning("p;+1;n");
        beginning("p;+1;n1;");
        complete("p;+1;n1");
        complete("+1;+1;-2;p;p;r0;w0");
        wrongAt(6, "p;+1;nn");
        wrongAt(4, "+29;;x");
        wrongAt(0, "xp;p");
        StreetEditions x = Do.typed("+3");
        Due.is("no error yet", x.firstError(), 2);
        x.append('0');
        Due.is("an error", x.firstError(), 2);
        x.append(';');
        Due.is("the first error stays the first one", x.firstError(), 2);
    }

    /** "however long": longer than the buffer can be. */
    private static void howeverLong() {
        String text = "+0;+1;+2;+3;+4;+5;+6;+7;+8;+9;+10;+11;+12;+13;+14;+15;";
        Due.is("the length of what comes before", text.length(), 54);
        complete(text + "+16;+1");
        complete(text + "+16;p");
        beginning(text + "+16;p;");
        beginning(text + "+16;+");
        beginning(text + "+1;p;n");
        wrongAt(59, text + "+16;+;");
        wrongAt(59, text + "+16;pp");
        wrongAt(58, text + "+16;1p");
        wrongAt(0, ";" + text + "+1;+2");
    }
}
