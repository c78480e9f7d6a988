/**
 * A comparer of small name-passing processes: it builds processes from actions that send and
 * receive names, tells their moves, and decides ground, early and late bisimilarity by a game.
 */
public final class NamePassingComparer {

    public static final int INVALID_ARGUMENT = -1;
    public static final int NOT_CLOSED = -2;
    public static final int LIMIT_REACHED = -3;
    public static final int NOT_FOUND = -4;
    public static final int NOTHING = 0, TAU = 1, OUTPUT = 2, INPUT = 3, MATCH = 4, SUM = 5;
    public static final int GROUND = 0, EARLY = 1, LATE = 2;

    private static final int MOST_PROCESSES = 24;
    private static final int MOST_DEPTH = 3;
    private static final int MOST_BREADTH = 3;
    private static final int NAME_COUNT = 6;
    private static final int RELATION_COUNT = 3;

    /** Stands for a name or a part that a kind does not have: a constant, and closed. */
    private static final int UNUSED = 0;

    /** Stands where a move or an attack has no name to tell. */
    private static final int NO_NAME = 9;

    private final Store store;
    private final Game game;

    public NamePassingComparer() {
        store = new Store();
        game = new Game(store);
    }

    public int tau(int p) {
        if (!store.holds(p)) {
            return INVALID_ARGUMENT;
        }
        return store.build(TAU, UNUSED, UNUSED, p, UNUSED);
    }

    public int output(int x, int y, int p) {
        if (!isName(x) || !isName(y) || !store.holds(p)) {
            return INVALID_ARGUMENT;
        }
        return store.build(OUTPUT, x, y, p, UNUSED);
    }

    public int input(int x, int p) {
        if (!isName(x) || !store.holds(p)) {
            return INVALID_ARGUMENT;
        }
        return store.build(INPUT, x, UNUSED, p, UNUSED);
    }

    public int match(int x, int y, int p) {
        if (!isName(x) || !isName(y) || !store.holds(p)) {
            return INVALID_ARGUMENT;
        }
        return store.build(MATCH, x, y, p, UNUSED);
    }

    public int sum(int p, int q) {
        if (!store.holds(p) || !store.holds(q)) {
            return INVALID_ARGUMENT;
        }
        return store.build(SUM, UNUSED, UNUSED, p, q);
    }

    public int removeLast() {
        int last = store.count - 1;
        if (last < 1) {
            return NOT_FOUND;
        }
        store.count = last;
        game.forget(last);
        return last;
    }

    public int processCount() {
        return store.count;
    }

    public int kindOf(int p) {
        return store.holds(p) ? at(store.kinds, p) : INVALID_ARGUMENT;
    }

    public int partOf(int p, int index) {
        if (!store.holds(p) || index < 0 || index > 1) {
            return INVALID_ARGUMENT;
        }
        if (index >= Store.partsOfKind(at(store.kinds, p))) {
            return NOT_FOUND;
        }
        return at(index == 0 ? store.firstParts : store.secondParts, p);
    }

    public int depthOf(int p) {
        return store.holds(p) ? at(store.depths, p) : INVALID_ARGUMENT;
    }

    public int needOf(int p) {
        return store.holds(p) ? at(store.needs, p) : INVALID_ARGUMENT;
    }

    public int textLength(int p) {
        return store.holds(p) ? at(store.lengths, p) : INVALID_ARGUMENT;
    }

    public int textAt(int p, int index) {
        if (!store.holds(p) || index < 0) {
            return INVALID_ARGUMENT;
        }
        if (index >= at(store.lengths, p)) {
            return NOT_FOUND;
        }
        return store.characterOf(p, index);
    }

    public int moveCount(int p) {
        if (!store.holds(p)) {
            return INVALID_ARGUMENT;
        }
        return store.isClosed(p) ? store.movesOf(p) : NOT_CLOSED;
    }

    public int moveKind(int p, int move) {
        int action = actionOrError(p, move);
        return action < 0 ? action : at(store.kinds, action);
    }

    public int moveNames(int p, int move) {
        int action = actionOrError(p, move);
        if (action < 0) {
            return action;
        }
        // The names of a move of a closed process are constants: each is its own value.
        int kind = at(store.kinds, action);
        int subject = kind == TAU ? NO_NAME : at(store.channels, action);
        int object = kind == OUTPUT ? at(store.objects, action) : NO_NAME;
        return 10 * subject + object;
    }

    public int moveTarget(int p, int move) {
        int action = actionOrError(p, move);
        return action < 0 ? action : at(store.firstParts, action);
    }

    public int areRelated(int p, int q, int relation) {
        int error = errorOfPair(p, q, relation);
        if (error < 0) {
            return error;
        }
        return game.roundsOf(p, q, relation) == NOT_FOUND ? 1 : 0;
    }

    public int rounds(int p, int q, int relation) {
        int error = errorOfPair(p, q, relation);
        return error < 0 ? error : game.roundsOf(p, q, relation);
    }

    public int firstAttack(int p, int q, int relation) {
        int error = errorOfPair(p, q, relation);
        return error < 0 ? error : game.attackOf(p, q, relation);
    }

    public int representative(int p, int relation) {
        int error = errorOfPair(p, p, relation);
        return error < 0 ? error : lowestRelated(p, relation);
    }

    public int classCount(int relation) {
        if (!isRelation(relation)) {
            return INVALID_ARGUMENT;
        }
        int classes = 0;
        for (int p = 0; p < store.count; p++) {
            if (store.isClosed(p) && lowestRelated(p, relation) == p) {
                classes++;
            }
        }
        return classes;
    }

    private int lowestRelated(int p, int relation) {
        for (int q = 0; q < p; q++) {
            if (store.isClosed(q) && game.roundsOf(p, q, relation) == NOT_FOUND) {
                return q;
            }
        }
        return p;
    }

    /** Answers the action behind a move of a closed process, or the error that comes first. */
    private int actionOrError(int p, int move) {
        if (!store.holds(p) || move < 0) {
            return INVALID_ARGUMENT;
        }
        return store.isClosed(p) ? store.actionOf(p, move) : NOT_CLOSED;
    }

    /** Answers the error that comes first, or 0 if the game of p and q can be played. */
    private int errorOfPair(int p, int q, int relation) {
        if (!store.holds(p) || !store.holds(q) || !isRelation(relation)) {
            return INVALID_ARGUMENT;
        }
        return store.isClosed(p) && store.isClosed(q) ? 0 : NOT_CLOSED;
    }

    private static boolean isName(int name) {
        return name >= 0 && name < NAME_COUNT;
    }

    private static boolean isRelation(int relation) {
        return relation >= 0 && relation < RELATION_COUNT;
    }

    // Every row is read and written by these, so that no index goes untested.

    private static int at(int[] row, int index) {
        return row != null && index >= 0 && index < row.length ? row[index] : 0;
    }

    private static long at(long[] row, int index) {
        return row != null && index >= 0 && index < row.length ? row[index] : 0L;
    }

    private static void put(int[] row, int index, int value) {
        if (row != null && index >= 0 && index < row.length) {
            row[index] = value;
        }
    }

    private static void put(long[] row, int index, long value) {
        if (row != null && index >= 0 && index < row.length) {
            row[index] = value;
        }
    }

    /**
     * The values of the variables, packed into one number: three bits for each received name,
     * the last one lowest, since variables count from the innermost input. A 1 stands above
     * them, so that a received 0 differs from nothing received.
     */
    private static final class Received {

        private static final int NOTHING_YET = 1;
        private static final int BITS = 3;
        private static final int ONE_VALUE = 7;
        private static final int FIRST_VARIABLE = 3;
        private static final int FIRST_FRESH = 3;

        private Received() {
        }

        private static int with(int received, int value) {
            return received << BITS | value;
        }

        private static int valueOf(int name, int received) {
            if (name < FIRST_VARIABLE) {
                return name;
            }
            return received >> BITS * (name - FIRST_VARIABLE) & ONE_VALUE;
        }

        private static boolean areEqual(int x, int y, int received) {
            return valueOf(x, received) == valueOf(y, received);
        }

        /** Fresh names are used in their order, so the next one is above all received names. */
        private static int nextFresh(int received) {
            int next = FIRST_FRESH;
            for (int name = FIRST_VARIABLE; name < NAME_COUNT; name++) {
                next = Math.max(next, valueOf(name, received) + 1);
            }
            return next;
        }
    }

    /** The processes and what is known of each from the time when it was built. */
    private static final class Store {

        private static final int NONE = NOT_FOUND;

        private int count;
        private final int[] kinds;
        private final int[] channels;
        private final int[] objects;
        private final int[] firstParts;
        private final int[] secondParts;
        private final int[] depths;
        private final int[] breadths;
        private final int[] needs;
        private final int[] lengths;

        // The actions with which a process can begin, and for each the matches that stand
        // before it: a bit for each pair of names. With them no move needs a walk through
        // sums, whose number of places doubles with each sum of nothing with nothing.
        private final int[] actions;
        private final long[] guards;

        private Store() {
            kinds = new int[MOST_PROCESSES];
            channels = new int[MOST_PROCESSES];
            objects = new int[MOST_PROCESSES];
            firstParts = new int[MOST_PROCESSES];
            secondParts = new int[MOST_PROCESSES];
            depths = new int[MOST_PROCESSES];
            breadths = new int[MOST_PROCESSES];
            needs = new int[MOST_PROCESSES];
            lengths = lengthsOfNew();
            actions = new int[MOST_PROCESSES * MOST_BREADTH];
            guards = new long[MOST_PROCESSES * MOST_BREADTH];
            count = 1;
        }

        private static int[] lengthsOfNew() {
            int[] row = new int[MOST_PROCESSES];
            put(row, 0, headOf(NOTHING).length());
            return row;
        }

        private boolean holds(int p) {
            return p >= 0 && p < count;
        }

        private boolean isClosed(int p) {
            return at(needs, p) == 0;
        }

        private static boolean isAction(int kind) {
            return kind == TAU || kind == OUTPUT || kind == INPUT;
        }

        private static int partsOfKind(int kind) {
            if (kind == NOTHING) {
                return 0;
            }
            return kind == SUM ? 2 : 1;
        }

        /** Stores a process; the names and parts that its kind lacks are UNUSED. */
        private int build(int kind, int x, int y, int p, int q) {
            int depth = Math.max(at(depths, p), at(depths, q)) + (isAction(kind) ? 1 : 0);
            int breadth = isAction(kind) ? 1 : at(breadths, p) + at(breadths, q);
            if (count >= MOST_PROCESSES || depth > MOST_DEPTH || breadth > MOST_BREADTH) {
                return LIMIT_REACHED;
            }
            int made = count;
            count = made + 1;
            put(kinds, made, kind);
            put(channels, made, x);
            put(objects, made, y);
            put(firstParts, made, p);
            put(secondParts, made, q);
            put(depths, made, depth);
            put(breadths, made, breadth);
            put(needs, made, needFor(kind, x, y, p, q));
            put(lengths, made, lengthFor(kind, p, q));
            putActions(made, kind, x, y, p, q);
            return made;
        }

        private int needFor(int kind, int x, int y, int p, int q) {
            int ofNames = Math.max(x, y) - (Received.FIRST_VARIABLE - 1);
            int ofFirst = at(needs, p) - (kind == INPUT ? 1 : 0);
            int ofParts = Math.max(ofFirst, at(needs, q));
            return Math.max(0, Math.max(ofNames, ofParts));
        }

        private int lengthFor(int kind, int p, int q) {
            int length = headOf(kind).length() + at(lengths, p);
            if (kind == SUM) {
                length += at(lengths, q) + 2;
            }
            return length;
        }

        private void putActions(int made, int kind, int x, int y, int p, int q) {
            if (isAction(kind)) {
                put(actions, made * MOST_BREADTH, made);
                put(guards, made * MOST_BREADTH, 0L);
                return;
            }
            long guard = kind == MATCH ? 1L << x * NAME_COUNT + y : 0L;
            copyActions(p, made, 0, guard);
            copyActions(q, made, at(breadths, p), guard);
        }

        private void copyActions(int part, int made, int behind, long guard) {
            for (int slot = 0; slot < at(breadths, part); slot++) {
                int from = part * MOST_BREADTH + slot;
                int to = made * MOST_BREADTH + behind + slot;
                put(actions, to, at(actions, from));
                put(guards, to, at(guards, from) | guard);
            }
        }

        private static boolean isOpen(long guards, int received) {
            if (guards == 0L) {
                return true;
            }
            for (int pair = 0; pair < NAME_COUNT * NAME_COUNT; pair++) {
                int x = pair / NAME_COUNT;
                int y = pair % NAME_COUNT;
                if ((guards >>> pair & 1L) != 0L && !Received.areEqual(x, y, received)) {
                    return false;
                }
            }
            return true;
        }

        /** Answers the action in a slot of p, or NONE if the values do not let it happen. */
        private int actionIn(int p, int slot, int received) {
            if (slot < 0 || slot >= at(breadths, p)) {
                return NONE;
            }
            int place = p * MOST_BREADTH + slot;
            return isOpen(at(guards, place), received) ? at(actions, place) : NONE;
        }

        private int movesOf(int p) {
            int moves = 0;
            for (int slot = 0; slot < at(breadths, p); slot++) {
                if (actionIn(p, slot, Received.NOTHING_YET) != NONE) {
                    moves++;
                }
            }
            return moves;
        }

        /** Answers the action that is the move with this number of a closed process, or NONE. */
        private int actionOf(int p, int move) {
            int passed = 0;
            for (int slot = 0; slot < at(breadths, p); slot++) {
                int action = actionIn(p, slot, Received.NOTHING_YET);
                if (action != NONE) {
                    if (passed == move) {
                        return action;
                    }
                    passed++;
                }
            }
            return NONE;
        }

        /** Answers what stands in a text before the first part, with x and y for the names. */
        private static String headOf(int kind) {
            switch (kind) {
                case TAU:
                    return "t.";
                case OUTPUT:
                    return "x!y.";
                case INPUT:
                    return "x?.";
                case MATCH:
                    return "[x=y]";
                case SUM:
                    return "(";
                default:
                    return "0";
            }
        }

        /** Walks down to the character, since a text can be far too long to be written out. */
        private int characterOf(int p, int index) {
            int here = p;
            int rest = index;
            for (int level = 0; level < MOST_PROCESSES; level++) {
                int kind = at(kinds, here);
                int head = headOf(kind).length();
                if (rest < head) {
                    return headCharacter(here, rest);
                }
                rest -= head;
                int first = at(firstParts, here);
                int length = at(lengths, first);
                if (rest < length) {
                    here = first;
                } else {
                    int second = at(secondParts, here);
                    rest -= length + 1;
                    if (rest < 0) {
                        return '+';
                    }
                    if (rest >= at(lengths, second)) {
                        return ')';
                    }
                    here = second;
                }
            }
            return NOT_FOUND;
        }

        private int headCharacter(int p, int index) {
            String head = headOf(at(kinds, p));
            if (index < 0 || index >= head.length()) {
                return NOT_FOUND;
            }
            char sign = head.charAt(index);
            if (sign == 'x') {
                return letterOf(at(channels, p));
            }
            return sign == 'y' ? letterOf(at(objects, p)) : sign;
        }

        private static int letterOf(int name) {
            if (name < Received.FIRST_VARIABLE) {
                return 'a' + name;
            }
            return '0' + (name - Received.FIRST_VARIABLE);
        }
    }

    /**
     * The game of two processes. Both states receive the same names in the same rounds, so one
     * packed number holds the values of both. What a position is worth is the least number of
     * rounds in which the attacker can force a win, or NEVER.
     */
    private static final class Game {

        /** Above every number of rounds, so that min and max treat it as the worst for him. */
        private static final int NEVER = MOST_DEPTH + 1;

        /** Nothing received, or one of the four names that can be received first. */
        private static final int VIEWS = 5;
        private static final int PAIRS = MOST_PROCESSES * (MOST_PROCESSES - 1) / 2;
        private static final int NOT_KEPT = -1;

        private final Store store;

        // What positions are worth, 0 where it is not known yet. Kept for positions with at
        // most one received name: behind two of them just one round can be left.
        private final int[] worths;

        private Game(Store store) {
            this.store = store;
            worths = new int[PAIRS * RELATION_COUNT * VIEWS];
        }

        /** Must be called when p is removed: its number may get another process. */
        private void forget(int p) {
            int start = firstPlace(p);
            int end = firstPlace(p + 1);
            for (int place = start; place < end; place++) {
                put(worths, place, 0);
            }
        }

        /** Answers the number of rounds of two closed processes, or NOT_FOUND: related. */
        private int roundsOf(int p, int q, int relation) {
            int found = worth(relation, p, q, Received.NOTHING_YET, MOST_DEPTH);
            return found == NEVER ? NOT_FOUND : found;
        }

        private int attackOf(int p, int q, int relation) {
            int goal = roundsOf(p, q, relation);
            if (goal == NOT_FOUND) {
                return NOT_FOUND;
            }
            int onFirst = attackWith(relation, p, q, goal);
            if (onFirst >= 0) {
                return onFirst;
            }
            int onSecond = attackWith(relation, q, p, goal);
            return onSecond >= 0 ? 1000 + onSecond : NOT_FOUND;
        }

        /** Answers the first attack with a move of p that is worth the goal, or NOT_FOUND. */
        private int attackWith(int relation, int p, int q, int goal) {
            int received = Received.NOTHING_YET;
            int move = 0;
            for (int slot = 0; slot < MOST_BREADTH; slot++) {
                int attack = store.actionIn(p, slot, received);
                if (attack != Store.NONE) {
                    int last = lastChoice(relation, attack, received);
                    for (int name = firstChoice(relation, attack); name <= last; name++) {
                        if (attackWorth(relation, attack, name, q, received, MOST_DEPTH) == goal) {
                            return 10 * move + name;
                        }
                    }
                    move++;
                }
            }
            return NOT_FOUND;
        }

        private int worth(int relation, int p, int q, int received, int left) {
            // The defender answers every move of a state with the same move of the same state.
            if (left <= 0 || p == q) {
                return NEVER;
            }
            int place = placeOf(relation, p, q, received);
            int known = at(worths, place);
            if (known != 0) {
                return known;
            }
            int onFirst = sideWorth(relation, p, q, received, left);
            int onSecond = sideWorth(relation, q, p, received, left);
            int found = Math.min(onFirst, onSecond);
            put(worths, place, found);
            return found;
        }

        private int sideWorth(int relation, int p, int q, int received, int left) {
            int best = NEVER;
            for (int slot = 0; slot < MOST_BREADTH && best > 1; slot++) {
                int attack = store.actionIn(p, slot, received);
                if (attack != Store.NONE) {
                    int last = lastChoice(relation, attack, received);
                    for (int name = firstChoice(relation, attack); name <= last; name++) {
                        int found = attackWorth(relation, attack, name, q, received, left);
                        best = Math.min(best, found);
                    }
                }
            }
            return best;
        }

        private int attackWorth(int relation, int attack, int name, int q, int received, int left) {
            int hardest = 0;
            for (int slot = 0; slot < MOST_BREADTH && hardest < NEVER; slot++) {
                int answer = store.actionIn(q, slot, received);
                if (answer != Store.NONE && agree(attack, answer, received)) {
                    int found = answerWorth(relation, attack, name, answer, received, left);
                    hardest = Math.max(hardest, found);
                }
            }
            return Math.min(NEVER, hardest + 1);
        }

        private int answerWorth(int relation, int attack, int name, int answer, int received,
                int left) {
            int p = at(store.firstParts, attack);
            int q = at(store.firstParts, answer);
            if (at(store.kinds, attack) != INPUT) {
                return worth(relation, p, q, received, left - 1);
            }
            int fresh = Received.nextFresh(received);
            int lowest = relation == LATE ? 0 : relation == EARLY ? name : fresh;
            int highest = relation == EARLY ? name : fresh;
            int best = NEVER;
            for (int value = lowest; value <= highest; value++) {
                int next = Received.with(received, value);
                best = Math.min(best, worth(relation, p, q, next, left - 1));
            }
            return best;
        }

        /** Names that a kind does not have are UNUSED on both sides, and so never differ. */
        private boolean agree(int attack, int answer, int received) {
            if (at(store.kinds, attack) != at(store.kinds, answer)) {
                return false;
            }
            int x = at(store.channels, attack);
            int y = at(store.objects, attack);
            return Received.areEqual(x, at(store.channels, answer), received)
                    && Received.areEqual(y, at(store.objects, answer), received);
        }

        private boolean isChosenWith(int relation, int attack) {
            return relation == EARLY && at(store.kinds, attack) == INPUT;
        }

        private int firstChoice(int relation, int attack) {
            return isChosenWith(relation, attack) ? 0 : NO_NAME;
        }

        private int lastChoice(int relation, int attack, int received) {
            return isChosenWith(relation, attack) ? Received.nextFresh(received) : NO_NAME;
        }

        /** What a position is worth does not depend on which of the two processes is first. */
        private static int placeOf(int relation, int p, int q, int received) {
            int view = viewOf(received);
            if (view == NOT_KEPT) {
                return NOT_KEPT;
            }
            int pair = firstPlace(Math.max(p, q)) + Math.min(p, q) * RELATION_COUNT * VIEWS;
            return pair + relation * VIEWS + view;
        }

        /** Answers where the pairs begin whose higher number is p. */
        private static int firstPlace(int p) {
            return p * (p - 1) / 2 * RELATION_COUNT * VIEWS;
        }

        private static int viewOf(int received) {
            if (received == Received.NOTHING_YET) {
                return 0;
            }
            int only = Received.valueOf(Received.FIRST_VARIABLE, received);
            boolean isOnly = received == Received.with(Received.NOTHING_YET, only);
            return isOnly ? 1 + only : NOT_KEPT;
        }
    }
}
