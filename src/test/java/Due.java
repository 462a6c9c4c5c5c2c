/** Compares answers with those that are due, counts the wrong ones, and ends a test. */
final class Due {

    interface Call {
        Object make();
    }

    private static int checked = 0;
    private static int wrong = 0;

    private Due() {
    }

    static void is(String what, Object got, Object want) {
        checked++;
        if (!got.equals(want)) {
            wrong++;
            System.out.println(what + " answered " + got + ", due is " + want);
        }
    }

    static void noSuch(StreetEditions x, String what, Call call) {
        refuses(x, IndexOutOfBoundsException.class, what, call);
    }

    static void notNow(StreetEditions x, String what, Call call) {
        refuses(x, IllegalStateException.class, what, call);
    }

    static void bad(StreetEditions x, String what, Call call) {
        refuses(x, IllegalArgumentException.class, what, call);
    }

    private static void refuses(StreetEditions x, Class<? extends RuntimeException> due, String what, Call call) {
        String before = Seen.all(x);
        is(what, outcome(call), due.getSimpleName());
        is("everything after " + what, Seen.all(x), before);
    }

    static Object outcome(Call call) {
        try {
            return call.make();
        } catch (RuntimeException e) {
            return e.getClass().getSimpleName();
        }
    }

    static void end(String test) {
        System.out.println(test + ": " + checked + " answers, " + wrong + " not as due");
        if (wrong != 0) {
            System.exit(1);
        }
    }
}
