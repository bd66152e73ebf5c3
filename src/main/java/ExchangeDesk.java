import java.util.Arrays;

/** A private telephone exchange; what each call answers is promised in DOC.md. */
public final class ExchangeDesk {
    private static final int LINES = 24;
    private static final int LINES_IN_UNIT = 6;
    private static final int UNITS = 4;
    private static final int SLOTS = 8;
    private static final int GROUPS = 4;
    private static final int MEMBERS = 6;
    private static final int PLACES = 4;

    private static final int NONE = -1;
    private static final int FREE = -1;
    private static final int OUT_OF_ORDER = -2;

    private static final int IDLE = 0;
    private static final int DIAL_TONE = 1;
    private static final int DIALLING = 2;
    private static final int RINGBACK = 3;
    private static final int RINGING = 4;
    private static final int BUSY = 5;
    private static final int TALKING = 6;
    private static final int PARKED = 7;
    private static final int CAMPED = 8;
    private static final int HOWLER = 9;

    private static final int ORDER_FIRST = 0;
    private static final int ORDER_AROUND = 1;
    private static final int ORDER_LONGEST_IDLE = 2;
    private static final int ORDER_ALL = 3;

    private static final int NUMBER_OF_LINES = 10;
    private static final int NUMBER_OF_GROUPS = 40;
    private static final int NUMBER_OF_PICK_UP = 50;
    private static final int NUMBER_OF_REST_ON = 51;
    private static final int NUMBER_OF_REST_OFF = 52;
    private static final int NUMBER_OF_PLACES = 60;
    private static final int LOWEST_TRANSFER = 10;
    private static final int HIGHEST_TRANSFER = 99;

    private static final int TICKS_TO_DIAL = 100;
    private static final int TICKS_TO_RING = 300;
    private static final int TICKS_TO_PARK = 600;
    private static final int TICKS_IN_A_UNIT = 60;
    private static final int MOST_TICKS = 1000;
    private static final int NEVER = 2147483647;

    private final Line[] lines;
    private final Switch paths;
    private final Group[] groups;
    private final int[] places;
    private final Book ended;
    private int time;
    private int blocked;

    public ExchangeDesk() {
        lines = new Line[LINES];
        for (int l = 0; l < LINES; l++) {
            lines[l] = new Line(l);
        }
        paths = new Switch();
        groups = new Group[GROUPS];
        for (int g = 0; g < GROUPS; g++) {
            groups[g] = new Group();
        }
        places = new int[PLACES];
        Arrays.fill(places, FREE);
        ended = new Book();
    }

    public int up(int line) throws IllegalArgumentException, IllegalStateException {
        Line one = lineOf(line);
        if (!one.isOnHook()) {
            throw new IllegalStateException("the line is off the hook");
        }
        if (one.state == RINGING) {
            answer(one);
            callFromCamps();
        } else {
            one.enter(DIAL_TONE, time);
        }
        return one.state;
    }

    public void down(int line) throws IllegalArgumentException, IllegalStateException {
        Line one = lineOf(line);
        if (one.isOnHook()) {
            throw new IllegalStateException("the line is on the hook");
        }
        leave(one);
        one.enter(IDLE, time);
        callFromCamps();
    }

    public int digit(int line, int d) throws IllegalArgumentException {
        Line one = lineOf(line);
        require(d >= 0 && d <= 9);
        if (one.state == DIAL_TONE) {
            one.enter(DIALLING, time);
            one.firstDigit = d;
        } else if (one.state == DIALLING) {
            call(one, one.firstDigit * 10 + d);
            callFromCamps();
        }
        return one.state;
    }

    public int camp(int line) throws IllegalArgumentException, IllegalStateException {
        Line one = lineOf(line);
        int at = one.lateFor;
        if (at == NONE || lines[at].state == IDLE || lines[at].camper != NONE) {
            throw new IllegalStateException("the line can not camp");
        }
        one.enter(CAMPED, time);
        one.other = at;
        lines[at].camper = line;
        return at;
    }

    public int park(int line, int place) throws IllegalArgumentException, IllegalStateException {
        Line one = lineOf(line);
        require(place >= 0 && place < PLACES);
        if (one.state != TALKING || places[place] != FREE) {
            throw new IllegalStateException("the line does not talk, or the place is not free");
        }
        Line other = endTalk(one);
        other.enter(PARKED, time);
        other.other = place;
        places[place] = other.number;
        return other.number;
    }

    public int transfer(int line, int number) throws IllegalArgumentException, IllegalStateException {
        Line one = lineOf(line);
        require(number >= LOWEST_TRANSFER && number <= HIGHEST_TRANSFER);
        if (one.state != TALKING) {
            throw new IllegalStateException("the line does not talk");
        }
        Line other = endTalk(one);
        call(other, number);
        callFromCamps();
        return other.state;
    }

    public int tick(int n) throws IllegalArgumentException {
        require(n >= 1 && n <= MOST_TICKS);
        int end = time + n;
        // Ticks at which no timer is due change nothing but the time, so they are passed over.
        for (int i = 0; i < n && time < end; i++) {
            time = Math.min(end, Math.max(time + 1, earliestDue()));
            lookAtTimers();
        }
        return time;
    }

    public int group(int g, int line, int order) throws IllegalArgumentException, IllegalStateException {
        require(g >= 0 && g < GROUPS);
        Group group = groups[g];
        if (line == NONE) {
            require(order >= ORDER_FIRST && order <= ORDER_ALL);
            group.restart(order);
            return 0;
        }
        require(isLine(line) && !group.has(line));
        if (group.size == MEMBERS) {
            throw new IllegalStateException("the group is full");
        }
        group.add(line);
        return group.size;
    }

    public void slot(int unit, int slot, boolean works) throws IllegalArgumentException, IllegalStateException {
        require(isSlot(unit, slot));
        if (paths.carried[unit][slot] >= 0) {
            throw new IllegalStateException("the slot is in use");
        }
        paths.carried[unit][slot] = works ? FREE : OUT_OF_ORDER;
    }

    public int carries(int unit, int slot) throws IllegalArgumentException {
        require(isSlot(unit, slot));
        return paths.carried[unit][slot];
    }

    public int line(int line, int what) throws IllegalArgumentException {
        Line one = lineOf(line);
        require(what >= 0 && what <= 5);
        switch (what) {
            case 0:
                return one.state;
            case 1:
                return one.state == RINGBACK ? lowestRinging(line) : one.other;
            case 2:
                return slotOf(one);
            case 3:
                return one.pays ? one.paid + unitsOf(one) : one.paid;
            case 4:
                return one.rests ? 1 : 0;
            default:
                return one.camper;
        }
    }

    public int count(int what) throws IllegalArgumentException {
        require(what >= 0 && what <= 2);
        if (what == 0) {
            return blocked;
        }
        return what == 1 ? ended.written : paths.slotsInUse();
    }

    public int book(int k, int what) throws IllegalArgumentException, IndexOutOfBoundsException {
        require(what >= 0 && what < Book.COLUMNS);
        if (!ended.keeps(k)) {
            throw new IndexOutOfBoundsException("no such entry is kept");
        }
        return ended.read(k, what);
    }

    private static void require(boolean holds) {
        if (!holds) {
            throw new IllegalArgumentException("an argument is not in its range");
        }
    }

    private static boolean isLine(int line) {
        return line >= 0 && line < LINES;
    }

    private static boolean isSlot(int unit, int slot) {
        return unit >= 0 && unit < UNITS && slot >= 0 && slot < SLOTS;
    }

    private Line lineOf(int line) {
        require(isLine(line));
        return lines[line];
    }

    private int slotOf(Line one) {
        if (one.state != RINGBACK) {
            return one.slot;
        }
        int ringing = lowestRinging(one.number);
        return ringing == NONE ? NONE : lines[ringing].slot;
    }

    private int lowestRinging(int caller) {
        for (int l = 0; l < LINES; l++) {
            if (lines[l].ringsFor(caller)) {
                return l;
            }
        }
        return NONE;
    }

    private void call(Line caller, int number) {
        if (number >= NUMBER_OF_LINES && number < NUMBER_OF_LINES + LINES) {
            callLine(caller, lines[number - NUMBER_OF_LINES]);
        } else if (number >= NUMBER_OF_GROUPS && number < NUMBER_OF_GROUPS + GROUPS) {
            callGroup(caller, groups[number - NUMBER_OF_GROUPS]);
        } else if (number == NUMBER_OF_PICK_UP) {
            pickUp(caller);
        } else if (number >= NUMBER_OF_PLACES && number < NUMBER_OF_PLACES + PLACES) {
            takeParked(caller, number - NUMBER_OF_PLACES);
        } else {
            if (number == NUMBER_OF_REST_ON || number == NUMBER_OF_REST_OFF) {
                caller.rests = number == NUMBER_OF_REST_ON;
            }
            caller.enter(BUSY, time);
        }
    }

    private void callLine(Line caller, Line called) {
        if (called == caller || called.rests) {
            caller.enter(BUSY, time);
        } else if (called.state != IDLE) {
            caller.enter(BUSY, time);
            caller.lateFor = called.number;
        } else if (ring(caller, called)) {
            caller.enter(RINGBACK, time);
        } else {
            block(caller);
        }
    }

    private void callGroup(Line caller, Group group) {
        boolean rings = group.order == ORDER_ALL ? ringAll(caller, group) : ringOne(caller, group);
        if (rings) {
            caller.enter(RINGBACK, time);
        } else if (hasWilling(caller, group)) {
            // A willing member that does not ring had no path: nothing else keeps it from being taken.
            block(caller);
        } else {
            caller.enter(BUSY, time);
        }
    }

    private boolean ringAll(Line caller, Group group) {
        boolean rings = false;
        for (int i = 0; i < group.size; i++) {
            Line member = lines[group.row[i]];
            if (isWilling(caller, member) && ring(caller, member)) {
                rings = true;
            }
        }
        return rings;
    }

    private boolean ringOne(Line caller, Group group) {
        int at = group.order == ORDER_LONGEST_IDLE ? longestIdle(caller, group) : firstToTake(caller, group);
        if (at == NONE) {
            return false;
        }
        group.last = at;
        return ring(caller, lines[group.row[at]]);
    }

    private int firstToTake(Line caller, Group group) {
        int start = group.order == ORDER_AROUND ? group.last + 1 : 0;
        for (int i = 0; i < group.size; i++) {
            int at = (start + i) % group.size;
            if (canTake(caller, lines[group.row[at]])) {
                return at;
            }
        }
        return NONE;
    }

    private int longestIdle(Line caller, Group group) {
        int best = NONE;
        int bestSince = NEVER;
        for (int i = 0; i < group.size; i++) {
            Line member = lines[group.row[i]];
            if (member.since < bestSince && canTake(caller, member)) {
                best = i;
                bestSince = member.since;
            }
        }
        return best;
    }

    private boolean hasWilling(Line caller, Group group) {
        for (int i = 0; i < group.size; i++) {
            if (isWilling(caller, lines[group.row[i]])) {
                return true;
            }
        }
        return false;
    }

    private static boolean isWilling(Line caller, Line member) {
        return member != caller && member.state == IDLE && !member.rests;
    }

    private boolean canTake(Line caller, Line member) {
        return isWilling(caller, member) && paths.lowestFree(caller, member) != NONE;
    }

    /** Lets a line ring for the caller, if there is a path. */
    private boolean ring(Line caller, Line called) {
        int slot = paths.take(caller, called);
        if (slot == NONE) {
            return false;
        }
        called.enter(RINGING, time);
        called.other = caller.number;
        called.slot = slot;
        return true;
    }

    private void block(Line caller) {
        caller.enter(BUSY, time);
        blocked++;
    }

    private void answer(Line one) {
        Line caller = lines[one.other];
        // It talks before the other ones stop, so that its path is not taken from it with theirs.
        beginTalk(caller, one, one.slot);
        stopRinging(caller);
    }

    private void pickUp(Line taker) {
        Line ringing = firstRinging(taker.number / LINES_IN_UNIT);
        if (ringing == null) {
            taker.enter(BUSY, time);
            return;
        }
        Line caller = lines[ringing.other];
        stopRinging(caller);
        if (!talkByNewPath(caller, taker)) {
            caller.enter(BUSY, time);
            block(taker);
        }
    }

    private Line firstRinging(int unit) {
        Line first = null;
        int firstSince = NEVER;
        for (int l = unit * LINES_IN_UNIT; l < (unit + 1) * LINES_IN_UNIT; l++) {
            Line one = lines[l];
            if (one.state == RINGING && one.since < firstSince) {
                first = one;
                firstSince = one.since;
            }
        }
        return first;
    }

    private void takeParked(Line taker, int place) {
        int parked = places[place];
        if (parked == FREE) {
            taker.enter(BUSY, time);
        } else if (talkByNewPath(lines[parked], taker)) {
            places[place] = FREE;
        } else {
            block(taker);
        }
    }

    private boolean talkByNewPath(Line caller, Line other) {
        int slot = paths.take(caller, other);
        if (slot == NONE) {
            return false;
        }
        beginTalk(caller, other, slot);
        return true;
    }

    private void beginTalk(Line caller, Line other, int slot) {
        caller.talk(other.number, slot, time);
        other.talk(caller.number, slot, time);
        caller.pays = true;
    }

    /** Ends the call of a talking line and leaves both ends busy; answers the other end. */
    private Line endTalk(Line one) {
        Line other = lines[one.other];
        Line caller = one.pays ? one : other;
        int units = unitsOf(caller);
        caller.paid += units;
        ended.write(caller.number, caller.other, caller.since, units);
        paths.release(one, other, one.slot);
        one.enter(BUSY, time);
        other.enter(BUSY, time);
        return other;
    }

    private int unitsOf(Line caller) {
        return 1 + (time - caller.since) / TICKS_IN_A_UNIT;
    }

    // All that ring for a caller began with one call in one tick, and nobody takes a path
    // before the last of them is idle: going by line numbers gives the same as going by the row.
    private void stopRinging(Line caller) {
        for (int l = 0; l < LINES; l++) {
            Line one = lines[l];
            if (one.ringsFor(caller.number)) {
                paths.release(caller, one, one.slot);
                one.enter(IDLE, time);
            }
        }
    }

    /** Ends what a line that is off the hook has to do with other lines and places. */
    private void leave(Line one) {
        switch (one.state) {
            case TALKING:
                endTalk(one);
                break;
            case RINGBACK:
                stopRinging(one);
                break;
            case PARKED:
                places[one.other] = FREE;
                break;
            case CAMPED:
                lines[one.other].camper = NONE;
                break;
            default:
                break;
        }
    }

    // Called when an event is over. A camped line only lets one idle line ring,
    // so no further line becomes idle here and one pass is enough.
    private void callFromCamps() {
        for (int l = 0; l < LINES; l++) {
            Line one = lines[l];
            if (one.camper != NONE && one.state == IDLE) {
                Line camper = lines[one.camper];
                one.camper = NONE;
                callLine(camper, one);
            }
        }
    }

    private int earliestDue() {
        int earliest = NEVER;
        for (int l = 0; l < LINES; l++) {
            earliest = Math.min(earliest, lines[l].due());
        }
        return earliest;
    }

    private void lookAtTimers() {
        for (int l = 0; l < LINES; l++) {
            if (lines[l].due() <= time) {
                runOut(lines[l]);
                callFromCamps();
            }
        }
    }

    private void runOut(Line one) {
        if (one.state == DIAL_TONE || one.state == DIALLING) {
            one.enter(HOWLER, time);
        } else {
            leave(one);
            one.enter(BUSY, time);
        }
    }

    /** A line and what it is doing; lines name one another by number. */
    private static final class Line {
        final int number;
        int state = IDLE;
        /** The tick when the state began: of a line that was never in use -1. */
        int since = -1;
        /** TALKING: the other end; RINGING: the caller; CAMPED: the line; PARKED: the place. */
        int other = NONE;
        /** TALKING and RINGING: the slot of the path. */
        int slot = NONE;
        /** BUSY: the line that was not idle when this one called it last. */
        int lateFor = NONE;
        int firstDigit;
        /** TALKING: whether this end is the caller. */
        boolean pays;
        /** Units of the calls that have ended. */
        int paid;
        /** Whether do not disturb is on. */
        boolean rests;
        int camper = NONE;

        Line(int number) {
            this.number = number;
        }

        boolean isOnHook() {
            return state == IDLE || state == RINGING;
        }

        boolean ringsFor(int caller) {
            return state == RINGING && other == caller;
        }

        /** Begins a state and forgets all that belonged to the one before it. */
        void enter(int next, int now) {
            state = next;
            since = now;
            other = NONE;
            slot = NONE;
            lateFor = NONE;
            pays = false;
        }

        void talk(int with, int by, int now) {
            enter(TALKING, now);
            other = with;
            slot = by;
        }

        int due() {
            switch (state) {
                case DIAL_TONE:
                case DIALLING:
                    return since + TICKS_TO_DIAL;
                case RINGBACK:
                    return since + TICKS_TO_RING;
                case PARKED:
                    return since + TICKS_TO_PARK;
                default:
                    return NEVER;
            }
        }
    }

    /** The units' slots: each has the lower line of the path that it carries, or FREE, or OUT_OF_ORDER. */
    private static final class Switch {
        final int[][] carried = new int[UNITS][SLOTS];

        Switch() {
            for (int u = 0; u < UNITS; u++) {
                Arrays.fill(carried[u], FREE);
            }
        }

        int lowestFree(Line a, Line b) {
            int[] ofA = carried[a.number / LINES_IN_UNIT];
            int[] ofB = carried[b.number / LINES_IN_UNIT];
            for (int s = 0; s < SLOTS; s++) {
                if (ofA[s] == FREE && ofB[s] == FREE) {
                    return s;
                }
            }
            return NONE;
        }

        int take(Line a, Line b) {
            int slot = lowestFree(a, b);
            if (slot != NONE) {
                mark(a, b, slot, Math.min(a.number, b.number));
            }
            return slot;
        }

        void release(Line a, Line b, int slot) {
            mark(a, b, slot, FREE);
        }

        private void mark(Line a, Line b, int slot, int what) {
            carried[a.number / LINES_IN_UNIT][slot] = what;
            carried[b.number / LINES_IN_UNIT][slot] = what;
        }

        int slotsInUse() {
            int used = 0;
            for (int u = 0; u < UNITS; u++) {
                for (int s = 0; s < SLOTS; s++) {
                    if (carried[u][s] >= 0) {
                        used++;
                    }
                }
            }
            return used;
        }
    }

    /** A hunt group's row of members. */
    private static final class Group {
        final int[] row = new int[MEMBERS];
        int size;
        int order = ORDER_FIRST;
        /** Where in the row the member is that was taken last. */
        int last = NONE;

        void restart(int nextOrder) {
            size = 0;
            order = nextOrder;
            last = NONE;
        }

        boolean has(int line) {
            for (int i = 0; i < size; i++) {
                if (row[i] == line) {
                    return true;
                }
            }
            return false;
        }

        void add(int line) {
            row[size] = line;
            size++;
        }
    }

    /** The calls that have ended; an entry keeps its number when older ones are dropped. */
    private static final class Book {
        static final int COLUMNS = 4;
        private static final int KEPT = 60;

        private final int[] entries = new int[KEPT * COLUMNS];
        int written;

        void write(int caller, int other, int began, int units) {
            int at = (written % KEPT) * COLUMNS;
            entries[at] = caller;
            entries[at + 1] = other;
            entries[at + 2] = began;
            entries[at + 3] = units;
            written++;
        }

        boolean keeps(int k) {
            return k >= 0 && k < written && k >= written - KEPT;
        }

        int read(int k, int what) {
            return entries[(k % KEPT) * COLUMNS + what];
        }
    }
}
