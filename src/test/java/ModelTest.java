import java.lang.reflect.InvocationTargetException;
import java.lang.reflect.Method;
import java.util.Arrays;
import java.util.HashMap;
import java.util.Map;
import java.util.TreeSet;

/** All promises at once: long runs of calls whose answers are compared with those of Plain. */
public final class ModelTest {

    private static final int RUNS = 1500;
    private static final int MOST_CALLS = 512;
    private static final String[] ASKING = {"edition", "draft", "published", "pending", "kept", "savedShare",
        "firstError", "savedStates", "digest"};
    private static final String[] ASKING_OF_FOLLOWER = {"editionOf", "streets", "isRight", "attention", "costs",
        "answer", "costToCome", "wrong"};

    private static final Map<String, Method> METHODS = new HashMap<>();
    private static final TreeSet<String> SEEN = new TreeSet<>();

    private final long seed;
    private long dice;
    private final int streetRange;
    private final int busyPublisher;
    private final StreetEditions x = new StreetEditions();
    private final Plain plain = new Plain();
    private int calls = 0;

    private ModelTest(long seed) {
        this.seed = seed;
        dice = seed * 7919 + 17;
        streetRange = new int[] {2, 6, 12, 30}[roll(4)];
        busyPublisher = roll(3);
    }

    public static void main(String[] args) {
        for (Class<?> c : new Class<?>[] {StreetEditions.class, Plain.class}) {
            for (Method m : c.getDeclaredMethods()) {
                METHODS.put(c.getName() + m.getName() + m.getParameterCount(), m);
            }
        }
        for (int seed = 0; seed < RUNS; seed++) {
            new ModelTest(seed).play();
        }
        theRunsReachWhatMatters();
        Due.end("ModelTest");
    }

    private static void theRunsReachWhatMatters() {
        for (String outcome : new String[] {"refresh 0", "refresh 1", "refresh 2", "refresh 3", "kept 6", "setKeep 6",
            "refreshAll 4", "run 0", "run 9", "undo 5", "sleep 4", "publish 0", "throwAway -1", "throwAway 0",
            "wake IllegalStateException", "undo IllegalStateException", "run IllegalArgumentException",
            "append IllegalStateException", "append 60", "firstError 60", "savedShare 0.0", "attention 3"}) {
            Due.is("the runs reach " + outcome, SEEN.contains(outcome), true);
        }
    }

    private int roll(int sides) {
        dice = dice * 6364136223846793005L + 1442695040888963407L;
        return (int) ((dice >>> 33) % sides);
    }

    private void play() {
        while (calls < MOST_CALLS) {
            change();
            ask();
        }
    }

    private void call(String name, int... arguments) {
        if (calls >= MOST_CALLS) {
            return;
        }
        calls++;
        Object due = outcome(plain, name, arguments);
        SEEN.add(name + " " + due);
        Due.is("seed " + seed + ", call " + calls + ", " + name + Arrays.toString(arguments),
                outcome(x, name, arguments), due);
    }

    private static Object outcome(Object of, String name, int[] arguments) {
        Object[] boxed = new Object[arguments.length];
        for (int i = 0; i < arguments.length; i++) {
            boxed[i] = arguments[i];
        }
        try {
            return METHODS.get(of.getClass().getName() + name + arguments.length).invoke(of, boxed);
        } catch (InvocationTargetException e) {
            return e.getCause().getClass().getSimpleName();
        } catch (IllegalAccessException e) {
            throw new AssertionError(e);
        }
    }

    private int someStreet() {
        int odd = roll(60);
        return odd == 0 ? -1 : odd == 1 ? 30 : odd == 2 ? roll(30) : roll(streetRange);
    }

    private int someFollower() {
        return roll(40) == 0 ? roll(2) * 5 - 1 : roll(4);
    }

    private int someEdition() {
        return roll(20) == 0 ? roll(2) * 17 - 1 : roll(16);
    }

    private void change() {
        int kind = roll(100);
        if (kind < 30) {
            int street = someStreet();
            call(roll(12) == 0 ? "crossOut" : roll(12) == 0 ? "add" : togglingCall(street), street);
        } else if (kind < 40 + 5 * busyPublisher) {
            call("publish");
        } else if (kind < 70) {
            call("refresh", someFollower());
        } else if (kind < 73) {
            call("renumber", roll(2) == 0 ? someEdition() : (plain.edition() + roll(5) + 14) % 16);
        } else if (kind < 76) {
            call("setKeep", roll(3) == 0 ? roll(10) - 1 : 6);
        } else if (kind < 79) {
            call("refreshAll");
        } else if (kind < 83) {
            call("sleep", someFollower());
        } else if (kind < 88) {
            call("wake", someFollower());
        } else if (kind < 90) {
            call("throwAway", someFollower());
        } else if (kind < 94) {
            undoSome();
        } else {
            type();
        }
    }

    private String togglingCall(int street) {
        boolean there = street >= 0 && street < 30 && plain.where(street) % 2 == 1;
        return there ? "crossOut" : "add";
    }

    private void undoSome() {
        int steps = roll(12) == 0 ? 8 : 1 + roll(2);
        for (int i = 0; i < steps; i++) {
            call("undo");
        }
    }

    private void type() {
        int kind = roll(8);
        int orders = kind == 0 ? 20 : 1 + roll(9);
        for (int i = 0; i < orders; i++) {
            String order = someOrder() + (i < orders - 1 || roll(12) == 0 ? ";" : "");
            for (int c = 0; c < order.length(); c++) {
                call("append", roll(200) == 0 ? 31 + roll(98) : order.charAt(c));
            }
        }
        call("firstError");
        call(roll(20) == 0 ? "clearText" : "run");
        if (roll(4) != 0) {
            call("clearText");
        }
    }

    private String someOrder() {
        switch (roll(7)) {
            case 0:
            case 1:
                int street = roll(streetRange);
                return (togglingCall(street).equals("add") ? "+" : "-") + street;
            case 2:
                return "p";
            case 3:
                return roll(3) == 0 ? "n" + roll(17) : "+" + roll(31);
            case 4:
                return "r" + roll(4);
            case 5:
                int follower = roll(4);
                return (plain.attention(follower) < 2 ? "s" : "w") + follower;
            default:
                return "r" + (roll(30) == 0 ? 4 : roll(4));
        }
    }

    private void ask() {
        switch (roll(6)) {
            case 0:
                call(ASKING[roll(ASKING.length)]);
                break;
            case 1:
                call(ASKING_OF_FOLLOWER[roll(ASKING_OF_FOLLOWER.length)], someFollower());
                break;
            case 2:
                askOfNumbers();
                break;
            default:
                call("digest");
                break;
        }
    }

    private void askOfNumbers() {
        switch (roll(5)) {
            case 0:
                call("where", someStreet());
                break;
            case 1:
                call("from", roll(8) - 1);
                break;
            case 2:
                call("cost", roll(8) - 1);
                break;
            case 3:
                call("compare", someEdition(), someEdition());
                break;
            default:
                call("has", someFollower(), someStreet());
                break;
        }
    }
}
