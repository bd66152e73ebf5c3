/**
 * An exchange under test, with short ways to work it. It counts the calls of its object:
 * behind the 512th nothing is promised, so a test that asks more is wrong itself.
 */
final class Desk {
    private static final int PROMISED_CALLS = 512;

    private final ExchangeDesk desk = new ExchangeDesk();
    private int calls;

    private ExchangeDesk next() {
        calls++;
        if (calls > PROMISED_CALLS) {
            throw new AssertionError("the test makes more than 512 calls on one object");
        }
        return desk;
    }

    int callsLeft() {
        return PROMISED_CALLS - calls;
    }

    int up(int line) {
        return next().up(line);
    }

    void down(int line) {
        next().down(line);
    }

    int digit(int line, int d) {
        return next().digit(line, d);
    }

    int camp(int line) {
        return next().camp(line);
    }

    int park(int line, int place) {
        return next().park(line, place);
    }

    int transfer(int line, int number) {
        return next().transfer(line, number);
    }

    int tick(int n) {
        return next().tick(n);
    }

    int group(int g, int line, int order) {
        return next().group(g, line, order);
    }

    void slot(int unit, int slot, boolean works) {
        next().slot(unit, slot, works);
    }

    int carries(int unit, int slot) {
        return next().carries(unit, slot);
    }

    int line(int line, int what) {
        return next().line(line, what);
    }

    int count(int what) {
        return next().count(what);
    }

    int book(int k, int what) {
        return next().book(k, what);
    }

    /** An idle line goes off the hook and dials: its state then. */
    int dial(int line, int number) {
        up(line);
        digit(line, number / 10);
        return digit(line, number % 10);
    }

    /** An idle line dials and goes on the hook again. */
    void dialAndLeave(int line, int number) {
        dial(line, number);
        down(line);
    }

    /** Two idle lines talk; the first one called. */
    void talk(int caller, int called) {
        dial(caller, 10 + called);
        up(called);
    }

    /** An idle line camps at one that is not idle. */
    void campAt(int line, int at) {
        dial(line, 10 + at);
        camp(line);
    }

    /** Leaves a unit only its lowest slots. */
    void keepSlots(int unit, int kept) {
        for (int s = kept; s < 8; s++) {
            slot(unit, s, false);
        }
    }

    void members(int g, int order, int... row) {
        group(g, -1, order);
        for (int line : row) {
            group(g, line, 0);
        }
    }

    /**
     * Eight paths fill a unit: its first line rings six lines of the next unit as group 3, its next
     * two lines ring one line each of the unit behind that.
     */
    void fill(int unit) {
        int first = unit * 6;
        group(3, -1, 3);
        for (int i = 0; i < 6; i++) {
            group(3, (first + 6 + i) % 24, 0);
        }
        dial(first, 43);
        dial(first + 1, 10 + (first + 12) % 24);
        dial(first + 2, 10 + (first + 13) % 24);
    }

    /** A new exchange with the line in this state; line 23, at place 0, is its partner where it needs one. */
    static Desk with(int line, int state) {
        Desk x = new Desk();
        x.bring(line, state, 23);
        return x;
    }

    /** Brings an idle line into a state, with an idle line as its partner. */
    void bring(int line, int state, int partner) {
        switch (state) {
            case State.DIAL_TONE -> up(line);
            case State.DIALLING -> {
                up(line);
                digit(line, 1);
            }
            case State.RINGBACK -> dial(line, 10 + partner);
            case State.RINGING -> dial(partner, 10 + line);
            case State.BUSY -> dial(line, 99);
            case State.TALKING -> talk(line, partner);
            case State.PARKED -> {
                talk(partner, line);
                park(partner, 0);
            }
            case State.CAMPED -> {
                up(partner);
                campAt(line, partner);
            }
            case State.HOWLER -> {
                up(line);
                tick(100);
            }
            default -> {
            }
        }
    }
}
