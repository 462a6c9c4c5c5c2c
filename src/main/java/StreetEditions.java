/**
 * A printer's street list in numbered editions, and the followers who ask for what is new.
 *
 * A list of streets is held as an int in which bit s is set if street s is in the list.
 */
public final class StreetEditions {

    public static final int NONE = -1;

    private static final int STREETS = 30;
    private static final int EDITIONS = 16;
    private static final int NEWER_AT_MOST = 7;
    private static final int FOLLOWERS = 4;
    private static final int MOST_KEPT = 6;
    private static final int KEPT_AT_FIRST = 3;
    private static final int MOST_SAVED = 6;
    private static final int MOST_CODES = 60;
    private static final int FIRST_CODE = 33;
    private static final int LAST_CODE = 126;
    private static final long FIRST_HASH = 4691L;

    private static final int NOTHING = 0;
    private static final int DIFFERENCES = 1;
    private static final int WHOLE_LIST = 2;
    private static final int REFUSED = 3;

    private final State state;
    private final SavedStates saved;
    private final OrderText text;

    public StreetEditions() {
        state = new State();
        saved = new SavedStates();
        text = new OrderText();
    }

    // ---- printer

    public int add(int street) throws IndexOutOfBoundsException, IllegalStateException {
        needStreet(street);
        if (!state.printer.mayAdd(street)) {
            throw new IllegalStateException("the street is in the draft");
        }
        saved.save(state);
        state.printer.addToDraft(street);
        return draft();
    }

    public int crossOut(int street) throws IndexOutOfBoundsException, IllegalStateException {
        needStreet(street);
        if (!state.printer.mayCrossOut(street)) {
            throw new IllegalStateException("the street is not in the draft");
        }
        saved.save(state);
        state.printer.takeOutOfDraft(street);
        return draft();
    }

    public int publish() throws IllegalStateException {
        if (!state.printer.mayPublish()) {
            throw new IllegalStateException("the draft is the published list");
        }
        saved.save(state);
        state.issueDraft();
        return edition();
    }

    public int renumber(int edition) throws IllegalArgumentException {
        if (!state.printer.mayTakeNumber(edition)) {
            throw new IllegalArgumentException("the edition is out of range or the present one");
        }
        saved.save(state);
        int before = edition();
        state.takeNumber(edition);
        return before;
    }

    public int setKeep(int count) throws IllegalArgumentException {
        if (count < 1 || count > MOST_KEPT) {
            throw new IllegalArgumentException("the count is out of range");
        }
        saved.save(state);
        state.printer.differences.limitTo(count);
        return kept();
    }

    public int edition() {
        return state.printer.number;
    }

    public int draft() {
        return Integer.bitCount(state.printer.draftList);
    }

    public int published() {
        return Integer.bitCount(state.printer.publishedList);
    }

    public int where(int street) throws IndexOutOfBoundsException {
        needStreet(street);
        return state.printer.placeOf(street);
    }

    public int pending() {
        return Integer.bitCount(state.printer.draftList ^ state.printer.publishedList);
    }

    public int kept() {
        return state.printer.differences.count;
    }

    public int from(int difference) throws IndexOutOfBoundsException {
        needDifference(difference);
        return state.printer.differences.leadsFrom[difference];
    }

    public int cost(int difference) throws IndexOutOfBoundsException {
        needDifference(difference);
        return state.printer.differences.costs[difference];
    }

    public int compare(int one, int other) throws IllegalArgumentException {
        if (!isEdition(one) || !isEdition(other)) {
            throw new IllegalArgumentException("an edition number is out of range");
        }
        if (one == other) {
            return 0;
        }
        return isNewer(one, other) ? 1 : -1;
    }

    // ---- followers

    public int refresh(int follower) throws IndexOutOfBoundsException, IllegalStateException {
        Follower reader = followerNumbered(follower);
        needAwake(reader);
        saved.save(state);
        return state.bringNews(reader);
    }

    public int refreshAll() {
        saved.save(state);
        return state.bringNewsToAllWithNotice();
    }

    public int sleep(int follower) throws IndexOutOfBoundsException, IllegalStateException {
        Follower reader = followerNumbered(follower);
        needAwake(reader);
        saved.save(state);
        reader.asleep = true;
        return state.countAsleep();
    }

    public int wake(int follower) throws IndexOutOfBoundsException, IllegalStateException {
        Follower reader = followerNumbered(follower);
        if (!reader.asleep) {
            throw new IllegalStateException("the follower is awake");
        }
        saved.save(state);
        reader.asleep = false;
        return state.countAsleep();
    }

    public int throwAway(int follower) throws IndexOutOfBoundsException {
        Follower reader = followerNumbered(follower);
        saved.save(state);
        int before = reader.sizeOrNone();
        reader.loseList();
        return before;
    }

    public int editionOf(int follower) throws IndexOutOfBoundsException {
        return followerNumbered(follower).editionOrNone();
    }

    public int streets(int follower) throws IndexOutOfBoundsException {
        return followerNumbered(follower).sizeOrNone();
    }

    public boolean has(int follower, int street) throws IndexOutOfBoundsException {
        needStreet(street);
        return followerNumbered(follower).knows(street);
    }

    public boolean isRight(int follower) throws IndexOutOfBoundsException {
        return followerNumbered(follower).wrongOrNone(state.printer.publishedList) == 0;
    }

    public int attention(int follower) throws IndexOutOfBoundsException {
        return followerNumbered(follower).attentionNumber();
    }

    public int costs(int follower) throws IndexOutOfBoundsException {
        return followerNumbered(follower).costsSoFar;
    }

    // ---- forecasts; they change nothing

    public int answer(int follower) throws IndexOutOfBoundsException {
        return state.printer.answerTo(followerNumbered(follower));
    }

    public int costToCome(int follower) throws IndexOutOfBoundsException {
        return state.nextCostOf(followerNumbered(follower));
    }

    public int wrong(int follower) throws IndexOutOfBoundsException {
        return followerNumbered(follower).wrongOrNone(state.printer.publishedList);
    }

    public double savedShare() {
        int counted = 0;
        int withWholeLists = 0;
        for (int f = 0; f < FOLLOWERS; f++) {
            counted += state.followers[f].costsSoFar;
            withWholeLists += state.followers[f].wholeListCosts;
        }
        if (withWholeLists == 0) {
            return 0.0;
        }
        return 1.0 - (double) counted / (double) withWholeLists;
    }

    // ---- order text

    public int append(int code) throws IllegalArgumentException, IllegalStateException {
        if (code < FIRST_CODE || code > LAST_CODE) {
            throw new IllegalArgumentException("the code is out of range");
        }
        if (text.length >= MOST_CODES) {
            throw new IllegalStateException("the buffer is full");
        }
        text.take(code);
        return text.length;
    }

    public int clearText() {
        int before = text.length;
        text.makeEmpty();
        return before;
    }

    public int firstError() {
        return text.errorIndex();
    }

    public int run() throws IllegalArgumentException {
        if (!text.isComplete()) {
            throw new IllegalArgumentException("the buffer is not a complete order text");
        }
        saved.save(state);
        int executed = text.carriedOutBy(state);
        text.makeEmpty();
        return executed;
    }

    // ---- undo

    public int undo() throws IllegalStateException {
        if (saved.count == 0) {
            throw new IllegalStateException("no state is saved");
        }
        saved.restoreInto(state);
        return saved.count;
    }

    public int savedStates() {
        return saved.count;
    }

    public long digest() {
        long hash = FIRST_HASH;
        hash = 31 * hash + edition();
        hash = 31 * hash + draft();
        hash = 31 * hash + published();
        hash = 31 * hash + pending();
        hash = 31 * hash + kept();
        hash = withDifferences(hash, state.printer.differences);
        for (int f = 0; f < FOLLOWERS; f++) {
            hash = withFollower(hash, state.followers[f]);
        }
        for (int s = 0; s < STREETS; s++) {
            hash = withStreet(hash, s);
        }
        return hash;
    }

    private static long withDifferences(long before, Differences differences) {
        long hash = before;
        for (int d = 0; d < differences.count; d++) {
            hash = 31 * hash + differences.leadsFrom[d];
            hash = 31 * hash + differences.costs[d];
        }
        return hash;
    }

    private long withFollower(long before, Follower follower) {
        long hash = before;
        hash = 31 * hash + follower.editionOrNone();
        hash = 31 * hash + follower.sizeOrNone();
        hash = 31 * hash + follower.attentionNumber();
        hash = 31 * hash + follower.costsSoFar;
        hash = 31 * hash + state.printer.answerTo(follower);
        hash = 31 * hash + state.nextCostOf(follower);
        hash = 31 * hash + follower.wrongOrNone(state.printer.publishedList);
        return hash;
    }

    private long withStreet(long before, int street) {
        long hash = 31 * before + state.printer.placeOf(street);
        for (int f = 0; f < FOLLOWERS; f++) {
            hash = 31 * hash + (state.followers[f].knows(street) ? 1 : 0);
        }
        return hash;
    }

    private static void needStreet(int street) {
        if (!isStreet(street)) {
            throw new IndexOutOfBoundsException("there is no such street");
        }
    }

    private void needDifference(int difference) {
        if (difference < 0 || difference >= state.printer.differences.count) {
            throw new IndexOutOfBoundsException("there is no such difference");
        }
    }

    private Follower followerNumbered(int number) {
        if (!isFollower(number)) {
            throw new IndexOutOfBoundsException("there is no such follower");
        }
        return state.followers[number];
    }

    private static void needAwake(Follower follower) {
        if (follower.asleep) {
            throw new IllegalStateException("the follower is asleep");
        }
    }

    private static boolean isStreet(int number) {
        return number >= 0 && number < STREETS;
    }

    private static boolean isEdition(int number) {
        return number >= 0 && number < EDITIONS;
    }

    private static boolean isFollower(int number) {
        return number >= 0 && number < FOLLOWERS;
    }

    private static boolean isNewer(int one, int other) {
        int ahead = (one - other + EDITIONS) % EDITIONS;
        return ahead >= 1 && ahead <= NEWER_AT_MOST;
    }

    private static boolean contains(int list, int street) {
        return (list & (1 << street)) != 0;
    }

    /** Everything that undo brings back. */
    private static final class State {
        private final Printer printer = new Printer();
        private final Follower[] followers = new Follower[FOLLOWERS];

        State() {
            for (int f = 0; f < FOLLOWERS; f++) {
                followers[f] = new Follower();
            }
        }

        void copyFrom(State other) {
            printer.copyFrom(other.printer);
            for (int f = 0; f < FOLLOWERS; f++) {
                followers[f].copyFrom(other.followers[f]);
            }
        }

        void issueDraft() {
            printer.issueDraft();
            giveNotice();
        }

        void takeNumber(int edition) {
            printer.takeNumber(edition);
            giveNotice();
        }

        private void giveNotice() {
            for (int f = 0; f < FOLLOWERS; f++) {
                if (!followers[f].asleep) {
                    followers[f].noticed = true;
                }
            }
        }

        int countAsleep() {
            int asleep = 0;
            for (int f = 0; f < FOLLOWERS; f++) {
                if (followers[f].asleep) {
                    asleep++;
                }
            }
            return asleep;
        }

        int nextCostOf(Follower follower) {
            return printer.costOfAnswer(printer.answerTo(follower), follower.edition);
        }

        int bringNews(Follower follower) {
            int answer = printer.answerTo(follower);
            follower.noticed = false;
            if (answer == DIFFERENCES || answer == WHOLE_LIST) {
                follower.costsSoFar += printer.costOfAnswer(answer, follower.edition);
                follower.wholeListCosts += printer.wholeListCost();
                follower.list = answer == WHOLE_LIST
                        ? printer.publishedList
                        : printer.differences.appliedSince(follower.edition, follower.list);
                follower.hasList = true;
                follower.edition = printer.number;
            }
            return answer;
        }

        int bringNewsToAllWithNotice() {
            int refreshed = 0;
            for (int f = 0; f < FOLLOWERS; f++) {
                if (!followers[f].asleep && followers[f].noticed) {
                    bringNews(followers[f]);
                    refreshed++;
                }
            }
            return refreshed;
        }

        /** Carries out an order; false, without any change, if its method would throw. */
        boolean obey(int order, int number) {
            switch (order) {
                case '+':
                case '-':
                    return obeyOnStreet(order, number);
                case 'p':
                    if (!printer.mayPublish()) {
                        return false;
                    }
                    issueDraft();
                    return true;
                case 'n':
                    if (!printer.mayTakeNumber(number)) {
                        return false;
                    }
                    takeNumber(number);
                    return true;
                default:
                    return isFollower(number) && obeyOnFollower(order, followers[number]);
            }
        }

        private boolean obeyOnStreet(int order, int street) {
            if (order == '+' && printer.mayAdd(street)) {
                printer.addToDraft(street);
                return true;
            }
            if (order == '-' && printer.mayCrossOut(street)) {
                printer.takeOutOfDraft(street);
                return true;
            }
            return false;
        }

        private boolean obeyOnFollower(int order, Follower follower) {
            boolean wakes = order == 'w';
            if (follower.asleep != wakes) {
                return false;
            }
            if (order == 'r') {
                bringNews(follower);
            } else {
                follower.asleep = !wakes;
            }
            return true;
        }
    }

    /** The draft, the published list with its edition number, and the kept differences. */
    private static final class Printer {
        private int draftList;
        private int publishedList;
        private int number;
        private final Differences differences = new Differences();

        void copyFrom(Printer other) {
            draftList = other.draftList;
            publishedList = other.publishedList;
            number = other.number;
            differences.copyFrom(other.differences);
        }

        boolean mayAdd(int street) {
            return isStreet(street) && !contains(draftList, street);
        }

        boolean mayCrossOut(int street) {
            return isStreet(street) && contains(draftList, street);
        }

        boolean mayPublish() {
            return draftList != publishedList;
        }

        boolean mayTakeNumber(int edition) {
            return isEdition(edition) && edition != number;
        }

        void addToDraft(int street) {
            draftList |= 1 << street;
        }

        void takeOutOfDraft(int street) {
            draftList &= ~(1 << street);
        }

        void issueDraft() {
            differences.keep(number, publishedList & ~draftList, draftList & ~publishedList);
            publishedList = draftList;
            number = (number + 1) % EDITIONS;
        }

        void takeNumber(int edition) {
            number = edition;
            differences.dropAll();
        }

        int placeOf(int street) {
            int inDraft = contains(draftList, street) ? 1 : 0;
            int inPublished = contains(publishedList, street) ? 2 : 0;
            return inDraft + inPublished;
        }

        int wholeListCost() {
            return 1 + Integer.bitCount(publishedList);
        }

        int answerTo(Follower follower) {
            if (!follower.hasList) {
                return WHOLE_LIST;
            }
            if (follower.edition == number) {
                return NOTHING;
            }
            if (!isNewer(number, follower.edition)) {
                return REFUSED;
            }
            int cost = differences.costSince(follower.edition);
            return cost != NONE && cost <= wholeListCost() ? DIFFERENCES : WHOLE_LIST;
        }

        int costOfAnswer(int answer, int edition) {
            if (answer == DIFFERENCES) {
                return differences.costSince(edition);
            }
            return answer == WHOLE_LIST ? wholeListCost() : 0;
        }
    }

    /**
     * The kept differences, the oldest one first. The edition to which one leads is not stored: they
     * lead one after the other to the present edition, so it is always the next number.
     */
    private static final class Differences {
        private final int[] leadsFrom = new int[MOST_KEPT];
        private final int[] crossedOut = new int[MOST_KEPT];
        private final int[] added = new int[MOST_KEPT];
        private final int[] costs = new int[MOST_KEPT];
        private int limit = KEPT_AT_FIRST;
        private int count;

        void copyFrom(Differences other) {
            for (int d = 0; d < MOST_KEPT; d++) {
                leadsFrom[d] = other.leadsFrom[d];
                crossedOut[d] = other.crossedOut[d];
                added[d] = other.added[d];
                costs[d] = other.costs[d];
            }
            limit = other.limit;
            count = other.count;
        }

        void keep(int edition, int streetsCrossedOut, int streetsAdded) {
            if (count >= limit) {
                dropOldest(count - limit + 1);
            }
            leadsFrom[count] = edition;
            crossedOut[count] = streetsCrossedOut;
            added[count] = streetsAdded;
            costs[count] = 1 + Integer.bitCount(streetsCrossedOut | streetsAdded);
            count++;
        }

        void limitTo(int most) {
            limit = most;
            if (count > limit) {
                dropOldest(count - limit);
            }
        }

        void dropAll() {
            count = 0;
        }

        private void dropOldest(int dropped) {
            for (int d = dropped; d < count; d++) {
                leadsFrom[d - dropped] = leadsFrom[d];
                crossedOut[d - dropped] = crossedOut[d];
                added[d - dropped] = added[d];
                costs[d - dropped] = costs[d];
            }
            count -= dropped;
        }

        /** The cost of the differences that lead away from an edition; NONE if none does. */
        int costSince(int edition) {
            int cost = 0;
            for (int d = count - 1; d >= 0; d--) {
                cost += costs[d];
                if (leadsFrom[d] == edition) {
                    return cost;
                }
            }
            return NONE;
        }

        int appliedSince(int edition, int list) {
            int changed = list;
            boolean reached = false;
            for (int d = 0; d < count; d++) {
                reached = reached || leadsFrom[d] == edition;
                if (reached) {
                    changed = (changed & ~crossedOut[d]) | added[d];
                }
            }
            return changed;
        }
    }

    /** A follower; without a list, the list here is empty and the edition means nothing. */
    private static final class Follower {
        private boolean hasList;
        private int list;
        private int edition;
        private boolean asleep;
        private boolean noticed;
        private int costsSoFar;
        /** What costsSoFar would be with whole lists in place of differences. */
        private int wholeListCosts;

        void copyFrom(Follower other) {
            hasList = other.hasList;
            list = other.list;
            edition = other.edition;
            asleep = other.asleep;
            noticed = other.noticed;
            costsSoFar = other.costsSoFar;
            wholeListCosts = other.wholeListCosts;
        }

        void loseList() {
            hasList = false;
            list = 0;
        }

        int editionOrNone() {
            return hasList ? edition : NONE;
        }

        int sizeOrNone() {
            return hasList ? Integer.bitCount(list) : NONE;
        }

        int wrongOrNone(int publishedList) {
            return hasList ? Integer.bitCount(list ^ publishedList) : NONE;
        }

        boolean knows(int street) {
            return contains(list, street);
        }

        int attentionNumber() {
            return (noticed ? 1 : 0) + (asleep ? 2 : 0);
        }
    }

    /** The states from before the last undoable calls, in rows that are used again and again. */
    private static final class SavedStates {
        private final State[] rows = new State[MOST_SAVED];
        private int next;
        private int count;

        SavedStates() {
            for (int r = 0; r < MOST_SAVED; r++) {
                rows[r] = new State();
            }
        }

        void save(State state) {
            rows[next].copyFrom(state);
            next = (next + 1) % MOST_SAVED;
            count = Math.min(count + 1, MOST_SAVED);
        }

        void restoreInto(State state) {
            next = (next + MOST_SAVED - 1) % MOST_SAVED;
            count--;
            state.copyFrom(rows[next]);
        }
    }

    /** The buffer, and how it is read: each character leads from one place of an order to another. */
    private static final class OrderText {
        private static final int ERROR = -1;
        private static final int ORDER_BEGINS = 0;
        private static final int BEFORE_STREET = 1;
        private static final int BEFORE_EDITION = 2;
        private static final int BEFORE_FOLLOWER = 3;
        private static final int MAY_END_OR_DIGIT_TO_9 = 4;
        private static final int MAY_END_OR_DIGIT_TO_5 = 5;
        private static final int MUST_END = 6;

        private final int[] codes = new int[MOST_CODES];
        private int length;

        void take(int code) {
            codes[length] = code;
            length++;
        }

        void makeEmpty() {
            length = 0;
        }

        int errorIndex() {
            int place = ORDER_BEGINS;
            for (int i = 0; i < length; i++) {
                place = placeBehind(place, codes[i]);
                if (place == ERROR) {
                    return i;
                }
            }
            return length;
        }

        boolean isComplete() {
            int place = ORDER_BEGINS;
            for (int i = 0; i < length; i++) {
                place = placeBehind(place, codes[i]);
            }
            return mayEnd(place);
        }

        /** Lets the orders of a complete text be carried out up to the first refused one. */
        int carriedOutBy(State state) {
            int executed = 0;
            int order = 0;
            int number = 0;
            for (int i = 0; i <= length; i++) {
                int code = i < length ? codes[i] : ';';
                if (code == ';') {
                    if (!state.obey(order, number)) {
                        return executed;
                    }
                    executed++;
                    number = 0;
                } else if (isDigit(code, '9')) {
                    number = 10 * number + (code - '0');
                } else {
                    order = code;
                }
            }
            return executed;
        }

        private static boolean mayEnd(int place) {
            return place == MAY_END_OR_DIGIT_TO_9 || place == MAY_END_OR_DIGIT_TO_5
                    || place == MUST_END;
        }

        private static boolean isDigit(int code, int last) {
            return code >= '0' && code <= last;
        }

        private static int placeBehind(int place, int code) {
            if (code == ';') {
                return mayEnd(place) ? ORDER_BEGINS : ERROR;
            }
            switch (place) {
                case ORDER_BEGINS:
                    return placeBehindSign(code);
                case BEFORE_STREET:
                    return placeBehindStreetDigit(code);
                case BEFORE_EDITION:
                    return placeBehindEditionDigit(code);
                case BEFORE_FOLLOWER:
                    return isDigit(code, '3') ? MUST_END : ERROR;
                case MAY_END_OR_DIGIT_TO_9:
                    return isDigit(code, '9') ? MUST_END : ERROR;
                case MAY_END_OR_DIGIT_TO_5:
                    return isDigit(code, '5') ? MUST_END : ERROR;
                default:
                    return ERROR;
            }
        }

        private static int placeBehindSign(int code) {
            switch (code) {
                case '+':
                case '-':
                    return BEFORE_STREET;
                case 'p':
                    return MUST_END;
                case 'n':
                    return BEFORE_EDITION;
                case 'r':
                case 's':
                case 'w':
                    return BEFORE_FOLLOWER;
                default:
                    return ERROR;
            }
        }

        private static int placeBehindStreetDigit(int code) {
            if (code == '1' || code == '2') {
                return MAY_END_OR_DIGIT_TO_9;
            }
            return isDigit(code, '9') ? MUST_END : ERROR;
        }

        private static int placeBehindEditionDigit(int code) {
            if (code == '1') {
                return MAY_END_OR_DIGIT_TO_5;
            }
            return isDigit(code, '9') ? MUST_END : ERROR;
        }
    }
}
