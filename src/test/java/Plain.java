import java.util.ArrayDeque;
import java.util.ArrayList;
import java.util.Deque;
import java.util.List;
import java.util.TreeSet;
import java.util.function.IntSupplier;
import java.util.regex.Pattern;

/** The document once more, in sets and copies, to compare StreetEditions with; slow and plain. */
final class Plain {

    private static final String ORDER = "([+-]([0-9]|1[0-9]|2[0-9])|p|n([0-9]|1[0-5])|[rsw][0-3])";
    private static final Pattern ORDER_TEXT = Pattern.compile(ORDER + "(;" + ORDER + ")*");

    private static final class Difference {
        int from;
        int to;
        TreeSet<Integer> crossedOut;
        TreeSet<Integer> added;

        int cost() {
            return 1 + crossedOut.size() + added.size();
        }
    }

    private static final class Reader {
        TreeSet<Integer> list;
        int edition;
        boolean asleep;
        boolean notice;
        int costs;
    }

    private static final class World {
        TreeSet<Integer> draft = new TreeSet<>();
        TreeSet<Integer> published = new TreeSet<>();
        int edition;
        int keep = 3;
        List<Difference> differences = new ArrayList<>();
        List<Reader> readers = new ArrayList<>();
        int wholeCosts;
    }

    private World now = new World();
    private final Deque<World> saved = new ArrayDeque<>();
    private String buffer = "";

    Plain() {
        for (int f = 0; f < 4; f++) {
            now.readers.add(new Reader());
        }
    }

    private static World copy(World old) {
        World w = new World();
        w.draft = new TreeSet<>(old.draft);
        w.published = new TreeSet<>(old.published);
        w.edition = old.edition;
        w.keep = old.keep;
        w.differences = new ArrayList<>(old.differences);
        w.wholeCosts = old.wholeCosts;
        for (Reader r : old.readers) {
            Reader c = new Reader();
            c.list = r.list == null ? null : new TreeSet<>(r.list);
            c.edition = r.edition;
            c.asleep = r.asleep;
            c.notice = r.notice;
            c.costs = r.costs;
            w.readers.add(c);
        }
        return w;
    }

    /** Makes a call on a copy, so that one that throws changes nothing. */
    private int undoable(IntSupplier call) {
        World before = now;
        now = copy(before);
        int answer;
        try {
            answer = call.getAsInt();
        } catch (RuntimeException e) {
            now = before;
            throw e;
        }
        saved.addLast(before);
        if (saved.size() > 6) {
            saved.removeFirst();
        }
        return answer;
    }

    private static void exists(boolean there) {
        if (!there) {
            throw new IndexOutOfBoundsException();
        }
    }

    private static void fits(boolean now) {
        if (!now) {
            throw new IllegalStateException();
        }
    }

    private static void right(boolean argument) {
        if (!argument) {
            throw new IllegalArgumentException();
        }
    }

    private static void street(int street) {
        exists(street >= 0 && street <= 29);
    }

    private Reader reader(int follower) {
        exists(follower >= 0 && follower <= 3);
        return now.readers.get(follower);
    }

    private static boolean older(int a, int b) {
        return (a - b + 16) % 16 >= 8;
    }

    private static TreeSet<Integer> without(TreeSet<Integer> a, TreeSet<Integer> b) {
        TreeSet<Integer> rest = new TreeSet<>(a);
        rest.removeAll(b);
        return rest;
    }

    int add(int street) {
        return undoable(() -> doAdd(street));
    }

    private int doAdd(int street) {
        street(street);
        fits(now.draft.add(street));
        return now.draft.size();
    }

    int crossOut(int street) {
        return undoable(() -> doCrossOut(street));
    }

    private int doCrossOut(int street) {
        street(street);
        fits(now.draft.remove(street));
        return now.draft.size();
    }

    int publish() {
        return undoable(this::doPublish);
    }

    private int doPublish() {
        fits(!now.draft.equals(now.published));
        Difference d = new Difference();
        d.crossedOut = without(now.published, now.draft);
        d.added = without(now.draft, now.published);
        d.from = now.edition;
        now.edition = now.edition == 15 ? 0 : now.edition + 1;
        d.to = now.edition;
        now.differences.add(d);
        dropOld();
        now.published = new TreeSet<>(now.draft);
        notices();
        return now.edition;
    }

    private void dropOld() {
        while (now.differences.size() > now.keep) {
            now.differences.remove(0);
        }
    }

    private void notices() {
        for (Reader r : now.readers) {
            r.notice |= !r.asleep;
        }
    }

    int renumber(int edition) {
        return undoable(() -> doRenumber(edition));
    }

    private int doRenumber(int edition) {
        right(edition >= 0 && edition <= 15 && edition != now.edition);
        int before = now.edition;
        now.edition = edition;
        now.differences.clear();
        notices();
        return before;
    }

    int setKeep(int count) {
        return undoable(() -> {
            right(count >= 1 && count <= 6);
            now.keep = count;
            dropOld();
            return now.differences.size();
        });
    }

    int edition() {
        return now.edition;
    }

    int draft() {
        return now.draft.size();
    }

    int published() {
        return now.published.size();
    }

    int where(int street) {
        street(street);
        return (now.draft.contains(street) ? 1 : 0) + (now.published.contains(street) ? 2 : 0);
    }

    int pending() {
        return without(now.draft, now.published).size() + without(now.published, now.draft).size();
    }

    int kept() {
        return now.differences.size();
    }

    int from(int difference) {
        exists(difference >= 0 && difference < now.differences.size());
        return now.differences.get(difference).from;
    }

    int cost(int difference) {
        exists(difference >= 0 && difference < now.differences.size());
        return now.differences.get(difference).cost();
    }

    int compare(int one, int other) {
        right(one >= 0 && one <= 15 && other >= 0 && other <= 15);
        return one == other ? 0 : older(one, other) ? -1 : 1;
    }

    int refresh(int follower) {
        return undoable(() -> doRefresh(follower));
    }

    private int doRefresh(int follower) {
        Reader r = reader(follower);
        fits(!r.asleep);
        int answer = answer(follower);
        int cost = costToCome(follower);
        r.notice = false;
        if (answer == 1 || answer == 2) {
            r.costs += cost;
            now.wholeCosts += 1 + now.published.size();
            r.list = answer == 2 ? new TreeSet<>(now.published) : followed(r);
            r.edition = now.edition;
        }
        return answer;
    }

    private List<Difference> chain(int edition) {
        List<Difference> chain = new ArrayList<>();
        int reached = edition;
        for (Difference d : now.differences) {
            if (d.from == reached) {
                chain.add(d);
                reached = d.to;
            }
        }
        return chain;
    }

    private TreeSet<Integer> followed(Reader r) {
        TreeSet<Integer> list = new TreeSet<>(r.list);
        for (Difference d : chain(r.edition)) {
            list.removeAll(d.crossedOut);
            list.addAll(d.added);
        }
        return list;
    }

    int refreshAll() {
        return undoable(() -> {
            int count = 0;
            for (int f = 0; f < 4; f++) {
                if (attention(f) == 1) {
                    doRefresh(f);
                    count++;
                }
            }
            return count;
        });
    }

    private int asleep() {
        int count = 0;
        for (Reader r : now.readers) {
            count += r.asleep ? 1 : 0;
        }
        return count;
    }

    int sleep(int follower) {
        return undoable(() -> doSleep(follower, true));
    }

    int wake(int follower) {
        return undoable(() -> doSleep(follower, false));
    }

    private int doSleep(int follower, boolean asleep) {
        Reader r = reader(follower);
        fits(r.asleep != asleep);
        r.asleep = asleep;
        return asleep();
    }

    int throwAway(int follower) {
        return undoable(() -> {
            int size = streets(follower);
            reader(follower).list = null;
            return size;
        });
    }

    int editionOf(int follower) {
        return reader(follower).list == null ? -1 : reader(follower).edition;
    }

    int streets(int follower) {
        return reader(follower).list == null ? -1 : reader(follower).list.size();
    }

    boolean has(int follower, int street) {
        street(street);
        return reader(follower).list != null && reader(follower).list.contains(street);
    }

    boolean isRight(int follower) {
        return now.published.equals(reader(follower).list);
    }

    int attention(int follower) {
        Reader r = reader(follower);
        return r.asleep ? r.notice ? 3 : 2 : r.notice ? 1 : 0;
    }

    int costs(int follower) {
        return reader(follower).costs;
    }

    int answer(int follower) {
        Reader r = reader(follower);
        if (r.list == null) {
            return 2;
        }
        if (r.edition == now.edition) {
            return 0;
        }
        if (older(now.edition, r.edition)) {
            return 3;
        }
        List<Difference> chain = chain(r.edition);
        return !chain.isEmpty() && costOf(chain) <= 1 + now.published.size() ? 1 : 2;
    }

    private static int costOf(List<Difference> chain) {
        int cost = 0;
        for (Difference d : chain) {
            cost += d.cost();
        }
        return cost;
    }

    int costToCome(int follower) {
        int answer = answer(follower);
        if (answer == 1) {
            return costOf(chain(reader(follower).edition));
        }
        return answer == 2 ? 1 + now.published.size() : 0;
    }

    int wrong(int follower) {
        TreeSet<Integer> list = reader(follower).list;
        return list == null ? -1 : without(list, now.published).size() + without(now.published, list).size();
    }

    double savedShare() {
        int costs = 0;
        for (Reader r : now.readers) {
            costs += r.costs;
        }
        return costs == 0 ? 0.0 : 1.0 - (double) costs / (double) now.wholeCosts;
    }

    int append(int code) {
        right(code >= 33 && code <= 126);
        fits(buffer.length() < 60);
        buffer += (char) code;
        return buffer.length();
    }

    int clearText() {
        int length = buffer.length();
        buffer = "";
        return length;
    }

    int firstError() {
        return firstError(buffer);
    }

    static int firstError(String text) {
        for (int i = 0; i < text.length(); i++) {
            String beginning = text.substring(0, i + 1);
            // an order that has begun is completed by nothing or by 0, one that has not by p
            boolean good = false;
            for (String rest : new String[] {"", "0", "p"}) {
                good |= ORDER_TEXT.matcher(beginning + rest).matches();
            }
            if (!good) {
                return i;
            }
        }
        return text.length();
    }

    int run() {
        right(ORDER_TEXT.matcher(buffer).matches());
        int executed = undoable(() -> {
            int count = 0;
            for (String order : buffer.split(";")) {
                try {
                    obey(order.charAt(0), order.length() == 1 ? 0 : Integer.parseInt(order.substring(1)));
                } catch (RuntimeException e) {
                    return count;
                }
                count++;
            }
            return count;
        });
        buffer = "";
        return executed;
    }

    private int obey(char order, int number) {
        switch (order) {
            case '+': return doAdd(number);
            case '-': return doCrossOut(number);
            case 'p': return doPublish();
            case 'n': return doRenumber(number);
            case 'r': return doRefresh(number);
            case 's': return doSleep(number, true);
            default: return doSleep(number, false);
        }
    }

    int undo() {
        fits(!saved.isEmpty());
        now = saved.removeLast();
        return saved.size();
    }

    int savedStates() {
        return saved.size();
    }

    long digest() {
        List<Integer> values = new ArrayList<>(List.of(edition(), draft(), published(), pending(), kept()));
        for (int d = 0; d < kept(); d++) {
            values.addAll(List.of(from(d), cost(d)));
        }
        for (int f = 0; f < 4; f++) {
            values.addAll(List.of(editionOf(f), streets(f), attention(f), costs(f), answer(f), costToCome(f),
                    wrong(f)));
        }
        for (int s = 0; s < 30; s++) {
            values.add(where(s));
            for (int f = 0; f < 4; f++) {
                values.add(has(f, s) ? 1 : 0);
            }
        }
        long hash = 4691;
        for (int v : values) {
            hash = 31 * hash + v;
        }
        return hash;
    }
}
