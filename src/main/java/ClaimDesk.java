import java.util.Arrays;

/**
 * A small model checker: processes with places and transitions over shared variables and a channel.
 * What each call must answer stands in DOC.md; the words in capitals are that document's.
 */
public final class ClaimDesk {
    public static final int REFUSED = -1;
    public static final int NONE = -2;
    public static final int FULL = -3;
    public static final int LARGE = -4;

    private static final int PROCESSES = 3;
    private static final int PLACES = 8;
    private static final int LAST_PLACE = 7;
    private static final int VARIABLES = 4;
    private static final int VALUES = 4;
    private static final int CHANNEL_ROOM = 2;
    private static final int BEGINNINGS = 256;
    private static final int OPS = 128;
    private static final int MOST_TRANSITIONS = 24;
    private static final int MOST_CLAIMS = 6;
    private static final int MOST_STATES = 300;
    private static final int MOST_PAIRS = MOST_STATES * MOST_TRANSITIONS;

    private final Transition[] transitions;
    private final Claim[] claims;
    private final Space space;
    private final Avoidance avoidance;
    private int transitionCount;
    private int claimCount;
    private int firstState;
    private int stateNow;
    private int steps;

    public ClaimDesk() {
        transitions = new Transition[MOST_TRANSITIONS];
        for (int t = 0; t < MOST_TRANSITIONS; t++) {
            transitions[t] = new Transition();
        }
        claims = new Claim[MOST_CLAIMS];
        for (int i = 0; i < MOST_CLAIMS; i++) {
            claims[i] = new Claim();
        }
        space = new Space();
        avoidance = new Avoidance();
    }

    public boolean begin(int values) {
        if (!isBelow(values, BEGINNINGS)) {
            return false;
        }
        firstState = Packed.first(values);
        returnToFirst();
        space.forget();
        return true;
    }

    public int add(int process, int from, int to, int op) {
        if (!Transition.isAsSaid(process, from, to, op)) {
            return REFUSED;
        }
        if (transitionCount == MOST_TRANSITIONS) {
            return FULL;
        }
        transitions[transitionCount].become(process, from, to, op);
        transitionCount++;
        space.forget();
        return transitionCount - 1;
    }

    public boolean change(int t, int process, int from, int to, int op) {
        if (!isBelow(t, transitionCount) || !Transition.isAsSaid(process, from, to, op)) {
            return false;
        }
        transitions[t].become(process, from, to, op);
        space.forget();
        return true;
    }

    public int clear() {
        int before = transitionCount;
        transitionCount = 0;
        claimCount = 0;
        returnToFirst();
        space.forget();
        return before;
    }

    public int claim(int sort, int a, int b) {
        if (!Claim.isAsSaid(sort, a, b)) {
            return REFUSED;
        }
        if (claimCount == MOST_CLAIMS) {
            return FULL;
        }
        claims[claimCount].become(sort, a, b);
        claimCount++;
        return claimCount - 1;
    }

    public int explore() {
        return space.make(firstState, transitions, transitionCount) ? space.size() : LARGE;
    }

    public int fails(int i) {
        return isBelow(i, claimCount) ? space.leastFailing(claims[i]) : NONE;
    }

    public int stuck(boolean done) {
        return space.leastStuck(done);
    }

    public int avoids(int i, int what) {
        if (!isBelow(what, 2)) {
            return REFUSED;
        }
        if (!isBelow(i, claimCount) || !space.isThere()) {
            return NONE;
        }
        avoidance.find(space, claims[i]);
        return what == 0 ? avoidance.least(space) : avoidance.howMany(space);
    }

    public int way(int s, int k) {
        if (!space.has(s)) {
            return NONE;
        }
        return k == -1 ? space.wayLength(s) : space.wayStep(s, k);
    }

    public int state(int s, int what) {
        if (!isBelow(what, 13)) {
            return REFUSED;
        }
        if (!space.has(s)) {
            return NONE;
        }
        switch (what) {
            case 10:
                return space.openIn(s);
            case 11:
                return space.differentNext(s);
            case 12:
                return space.firstNext(s);
            default:
                return Packed.part(space.packed(s), what);
        }
    }

    public boolean walk(int t) {
        if (!isBelow(t, transitionCount) || !transitions[t].isOpenIn(stateNow)) {
            return false;
        }
        stateNow = transitions[t].leadsFrom(stateNow);
        steps++;
        return true;
    }

    public boolean go(int s) {
        if (!space.has(s)) {
            return false;
        }
        stateNow = space.packed(s);
        return true;
    }

    public int now(int what) {
        if (!isBelow(what, 14)) {
            return REFUSED;
        }
        switch (what) {
            case 10:
                return openNow();
            case 11:
                return space.numberOf(stateNow);
            case 12:
                return failingNow();
            case 13:
                return steps;
            default:
                return Packed.part(stateNow, what);
        }
    }

    public int count(int what) {
        if (!isBelow(what, 7) && !isBelow(what - 10, MOST_TRANSITIONS)) {
            return REFUSED;
        }
        if (what == 0) {
            return transitionCount;
        }
        if (what == 1) {
            return claimCount;
        }
        if (!space.isThere()) {
            return NONE;
        }
        switch (what) {
            case 2:
                return space.size();
            case 3:
                return space.pairs();
            case 4:
                return space.longestWay();
            case 5:
                return space.stuckStates(false);
            case 6:
                return space.stuckStates(true);
            default:
                return what - 10 < transitionCount ? space.statesWhereOpen(what - 10) : NONE;
        }
    }

    private void returnToFirst() {
        stateNow = firstState;
        steps = 0;
    }

    private int openNow() {
        int open = 0;
        for (int t = 0; t < transitionCount; t++) {
            if (transitions[t].isOpenIn(stateNow)) {
                open++;
            }
        }
        return open;
    }

    private int failingNow() {
        int failing = 0;
        for (int i = 0; i < claimCount; i++) {
            if (claims[i].failsIn(stateNow)) {
                failing++;
            }
        }
        return failing;
    }

    private static boolean isBelow(int number, int end) {
        return number >= 0 && number < end;
    }

    /**
     * A STATE as one int, so that two STATES are the same just when their ints are. Bits 0 to 7: the
     * VARIABLES, two each; 8 to 16: the PLACES, three each; 17 and 18: how many values the CHANNEL
     * has; 19 to 22: these values, two bits each, 0 where there is none.
     */
    private static final class Packed {
        private static final int PLACES_AT = 8;
        private static final int LENGTH_AT = 17;
        private static final int CHANNEL_AT = 19;

        static int first(int values) {
            return values;
        }

        static int variable(int state, int v) {
            return (state >> (2 * v)) & 3;
        }

        static int withVariable(int state, int v, int value) {
            return (state & ~(3 << (2 * v))) | (value << (2 * v));
        }

        static int place(int state, int process) {
            return (state >> (PLACES_AT + 3 * process)) & 7;
        }

        static int withPlace(int state, int process, int place) {
            int at = PLACES_AT + 3 * process;
            return (state & ~(7 << at)) | (place << at);
        }

        static int channelLength(int state) {
            return (state >> LENGTH_AT) & 3;
        }

        static int channelValue(int state, int k) {
            return k < channelLength(state) ? (state >> (CHANNEL_AT + 2 * k)) & 3 : NONE;
        }

        static int withSent(int state, int value) {
            int length = channelLength(state);
            return (state | (value << (CHANNEL_AT + 2 * length))) + (1 << LENGTH_AT);
        }

        static int withoutFirst(int state) {
            int length = channelLength(state) - 1;
            int values = state >> (CHANNEL_AT + 2);
            int rest = state & ((1 << LENGTH_AT) - 1);
            return rest | (length << LENGTH_AT) | (values << CHANNEL_AT);
        }

        static boolean allAtLastPlace(int state) {
            boolean all = true;
            for (int p = 0; p < PROCESSES; p++) {
                all = all && place(state, p) == LAST_PLACE;
            }
            return all;
        }

        /** What 0 to 9, which the calls state and now have in common. */
        static int part(int state, int what) {
            if (what < 3) {
                return place(state, what);
            }
            if (what < 7) {
                return variable(state, what - 3);
            }
            return what == 7 ? channelLength(state) : channelValue(state, what - 8);
        }
    }

    private static final class Transition {
        private static final int IS = 1;
        private static final int IS_NOT = 2;
        private static final int SET = 3;
        private static final int ADD = 4;
        private static final int COPY = 5;
        private static final int SEND = 6;
        private static final int TAKE = 7;

        private int process;
        private int from;
        private int to;
        private int kind;
        private int a;
        private int b;

        static boolean isAsSaid(int process, int from, int to, int op) {
            return isBelow(process, PROCESSES) && isBelow(from, PLACES) && isBelow(to, PLACES)
                    && isBelow(op, OPS);
        }

        void become(int newProcess, int newFrom, int newTo, int op) {
            process = newProcess;
            from = newFrom;
            to = newTo;
            kind = op / 16;
            a = (op / 4) % 4;
            b = op % 4;
        }

        boolean isOpenIn(int state) {
            return Packed.place(state, process) == from && allows(state);
        }

        private boolean allows(int state) {
            switch (kind) {
                case IS:
                    return Packed.variable(state, a) == b;
                case IS_NOT:
                    return Packed.variable(state, a) != b;
                case SEND:
                    return Packed.channelLength(state) < CHANNEL_ROOM;
                case TAKE:
                    return Packed.channelLength(state) > 0;
                default:
                    return true;
            }
        }

        /** Only for a STATE in which it is OPEN. */
        int leadsFrom(int state) {
            return Packed.withPlace(withEffect(state), process, to);
        }

        private int withEffect(int state) {
            int old = Packed.variable(state, a);
            switch (kind) {
                case SET:
                    return Packed.withVariable(state, a, b);
                case ADD:
                    return Packed.withVariable(state, a, (old + b) % VALUES);
                case COPY:
                    return Packed.withVariable(state, a, Packed.variable(state, b));
                case SEND:
                    return Packed.withSent(state, old);
                case TAKE:
                    return Packed.withVariable(Packed.withoutFirst(state), a, Packed.channelValue(state, 0));
                default:
                    return state;
            }
        }
    }

    private static final class Claim {
        private static final int VARIABLE_IS = 0;
        private static final int PROCESS_AT = 1;
        private static final int SAME_PLACE = 2;
        private static final int CHANNEL_HAS = 3;
        private static final int VARIABLE_GREATER = 4;

        private int sort;
        private int a;
        private int b;

        static boolean isAsSaid(int sort, int a, int b) {
            switch (sort) {
                case VARIABLE_IS:
                    return isBelow(a, VARIABLES) && isBelow(b, VALUES);
                case PROCESS_AT:
                    return isBelow(a, PROCESSES) && isBelow(b, PLACES);
                case SAME_PLACE:
                    return isBelow(a, PROCESSES) && isBelow(b, PROCESSES) && a != b;
                case CHANNEL_HAS:
                    return isBelow(a, CHANNEL_ROOM + 1);
                case VARIABLE_GREATER:
                    return isBelow(a, VARIABLES) && isBelow(b, VARIABLES);
                default:
                    return false;
            }
        }

        void become(int newSort, int newA, int newB) {
            sort = newSort;
            a = newA;
            b = newB;
        }

        boolean failsIn(int state) {
            switch (sort) {
                case VARIABLE_IS:
                    return Packed.variable(state, a) == b;
                case PROCESS_AT:
                    return Packed.place(state, a) == b;
                case SAME_PLACE:
                    return Packed.place(state, a) == Packed.place(state, b);
                case CHANNEL_HAS:
                    return Packed.channelLength(state) >= a;
                default:
                    return Packed.variable(state, a) > Packed.variable(state, b);
            }
        }
    }

    /**
     * THE SPACE. A pair of a STATE s and a TRANSITION t has the number s * MOST_TRANSITIONS + t. There
     * is no SPACE just when size is 0, since a SPACE has the FIRST STATE at least.
     */
    private static final class Space {
        private static final int SLOTS = 1024;
        private static final int SPREAD = 0x9E3779B1;
        private static final int SPREAD_SHIFT = 22;

        private final int[] states = new int[MOST_STATES];
        private final int[] foundFrom = new int[MOST_STATES];
        private final int[] foundBy = new int[MOST_STATES];
        private final int[] lengths = new int[MOST_STATES];
        private final int[] openCounts = new int[MOST_STATES];
        /** Of each pair: to which STATE it LEADS, NONE if it is not OPEN. */
        private final int[] next = new int[MOST_PAIRS];
        /** Of each STATE the last pair that LEADS to it, of each such pair the one before; NONE ends. */
        private final int[] lastInto = new int[MOST_STATES];
        private final int[] pairsBefore = new int[MOST_PAIRS];
        /** A hash table from STATES to their numbers: number + 1, and 0 in an empty slot. */
        private final int[] slots = new int[SLOTS];
        private int size;

        void forget() {
            size = 0;
        }

        boolean isThere() {
            return size > 0;
        }

        boolean has(int s) {
            return isBelow(s, size);
        }

        int size() {
            return size;
        }

        int packed(int s) {
            return states[s];
        }

        int openIn(int s) {
            return openCounts[s];
        }

        int wayLength(int s) {
            return lengths[s];
        }

        int lastPairInto(int s) {
            return lastInto[s];
        }

        int pairBefore(int pair) {
            return pairsBefore[pair];
        }

        /** False, and no SPACE, if it is LARGE. */
        boolean make(int first, Transition[] transitions, int transitionCount) {
            Arrays.fill(slots, 0);
            size = 0;
            append(first, 0, NONE, 0);
            for (int s = 0; s < size && s < MOST_STATES; s++) {
                if (!goOnFrom(s, transitions, transitionCount)) {
                    forget();
                    return false;
                }
            }
            return true;
        }

        private boolean goOnFrom(int s, Transition[] transitions, int transitionCount) {
            for (int t = 0; t < MOST_TRANSITIONS; t++) {
                next[s * MOST_TRANSITIONS + t] = NONE;
                if (t < transitionCount && transitions[t].isOpenIn(states[s])) {
                    int to = numberFor(transitions[t].leadsFrom(states[s]), s, t);
                    if (to == NONE) {
                        return false;
                    }
                    join(s, t, to);
                }
            }
            return true;
        }

        /** The STATE's number, a new one if it has none yet; NONE if there is no room for it. */
        private int numberFor(int state, int from, int by) {
            int known = numberOf(state);
            if (known != NONE) {
                return known;
            }
            if (size == MOST_STATES) {
                return NONE;
            }
            append(state, from, by, lengths[from] + 1);
            return size - 1;
        }

        private void append(int state, int from, int by, int length) {
            states[size] = state;
            foundFrom[size] = from;
            foundBy[size] = by;
            lengths[size] = length;
            openCounts[size] = 0;
            lastInto[size] = NONE;
            size++;
            putIntoSlot(state, size);
        }

        private void join(int s, int t, int to) {
            int pair = s * MOST_TRANSITIONS + t;
            next[pair] = to;
            pairsBefore[pair] = lastInto[to];
            lastInto[to] = pair;
            openCounts[s]++;
        }

        private void putIntoSlot(int state, int numberAndOne) {
            for (int tried = 0; tried < SLOTS; tried++) {
                int slot = slotFor(state, tried);
                if (slots[slot] == 0) {
                    slots[slot] = numberAndOne;
                    return;
                }
            }
        }

        int numberOf(int state) {
            // The slots may still hold what a SPACE before had.
            if (size == 0) {
                return NONE;
            }
            for (int tried = 0; tried < SLOTS; tried++) {
                int s = slots[slotFor(state, tried)] - 1;
                if (s < 0) {
                    return NONE;
                }
                if (states[s] == state) {
                    return s;
                }
            }
            return NONE;
        }

        private static int slotFor(int state, int tried) {
            return (((state * SPREAD) >>> SPREAD_SHIFT) + tried) % SLOTS;
        }

        int wayStep(int s, int k) {
            if (!isBelow(k, lengths[s])) {
                return NONE;
            }
            int at = s;
            for (int behind = lengths[s] - 1; behind > k; behind--) {
                at = foundFrom[at];
            }
            return foundBy[at];
        }

        int longestWay() {
            int longest = 0;
            for (int s = 0; s < size; s++) {
                longest = Math.max(longest, lengths[s]);
            }
            return longest;
        }

        int pairs() {
            int pairs = 0;
            for (int s = 0; s < size; s++) {
                pairs += openCounts[s];
            }
            return pairs;
        }

        int statesWhereOpen(int t) {
            int open = 0;
            for (int s = 0; s < size; s++) {
                if (next[s * MOST_TRANSITIONS + t] != NONE) {
                    open++;
                }
            }
            return open;
        }

        int firstNext(int s) {
            for (int t = 0; t < MOST_TRANSITIONS; t++) {
                int to = next[s * MOST_TRANSITIONS + t];
                if (to != NONE) {
                    return to;
                }
            }
            return NONE;
        }

        int differentNext(int s) {
            int different = 0;
            for (int t = 0; t < MOST_TRANSITIONS; t++) {
                if (isNewNext(s, t)) {
                    different++;
                }
            }
            return different;
        }

        /** Whether TRANSITION t is OPEN in s and none before it LEADS to the same STATE. */
        private boolean isNewNext(int s, int t) {
            int row = s * MOST_TRANSITIONS;
            for (int before = 0; before < t; before++) {
                if (next[row + before] == next[row + t]) {
                    return false;
                }
            }
            return next[row + t] != NONE;
        }

        int leastFailing(Claim claim) {
            for (int s = 0; s < size; s++) {
                if (claim.failsIn(states[s])) {
                    return s;
                }
            }
            return NONE;
        }

        int leastStuck(boolean done) {
            for (int s = 0; s < size; s++) {
                if (openCounts[s] == 0 && Packed.allAtLastPlace(states[s]) == done) {
                    return s;
                }
            }
            return NONE;
        }

        int stuckStates(boolean onlyDone) {
            int stuckStates = 0;
            for (int s = 0; s < size; s++) {
                if (openCounts[s] == 0 && (!onlyDone || Packed.allAtLastPlace(states[s]))) {
                    stuckStates++;
                }
            }
            return stuckStates;
        }
    }

    /**
     * Which STATES can avoid that a CLAIM FAILS. The others are ruled out one by one: those in which it
     * FAILS, and then each one that is not STUCK and from which all leads to STATES that are ruled out.
     */
    private static final class Avoidance {
        private final boolean[] ruledOut = new boolean[MOST_STATES];
        /** Of each STATE how many OPEN TRANSITIONS lead to STATES that were not gone through yet. */
        private final int[] left = new int[MOST_STATES];
        private final int[] waiting = new int[MOST_STATES];
        private int waitingCount;

        void find(Space space, Claim claim) {
            waitingCount = 0;
            for (int s = 0; s < space.size(); s++) {
                ruledOut[s] = false;
                left[s] = space.openIn(s);
                if (claim.failsIn(space.packed(s))) {
                    ruleOut(s);
                }
            }
            for (int i = 0; i < waitingCount && i < MOST_STATES; i++) {
                closeWaysInto(waiting[i], space);
            }
        }

        private void ruleOut(int s) {
            if (!ruledOut[s]) {
                ruledOut[s] = true;
                waiting[waitingCount] = s;
                waitingCount++;
            }
        }

        private void closeWaysInto(int s, Space space) {
            int pair = space.lastPairInto(s);
            for (int seen = 0; seen < MOST_PAIRS && pair != NONE; seen++) {
                int from = pair / MOST_TRANSITIONS;
                left[from]--;
                if (left[from] == 0) {
                    ruleOut(from);
                }
                pair = space.pairBefore(pair);
            }
        }

        int least(Space space) {
            for (int s = 0; s < space.size(); s++) {
                if (!ruledOut[s]) {
                    return s;
                }
            }
            return NONE;
        }

        int howMany(Space space) {
            int free = 0;
            for (int s = 0; s < space.size(); s++) {
                if (!ruledOut[s]) {
                    free++;
                }
            }
            return free;
        }
    }
}
