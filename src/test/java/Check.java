/** Counts wrong answers and holds the short ways in which the tests work a desk. */
final class Check {
    static final int IDLE = 0;
    static final int DIAL_TONE = 1;
    static final int DIALLING = 2;
    static final int RINGBACK = 3;
    static final int RINGING = 4;
    static final int BUSY = 5;
    static final int TALKING = 6;
    static final int PARKED = 7;
    static final int CAMPED = 8;
    static final int HOWLER = 9;

    private static int wrong = 0;

    private Check() {
    }

    static void due(String what, int got, int want) {
        if (got != want) {
            wrong++;
            System.out.println(what + " answered " + got + ", due is " + want);
        }
    }

    static void refusesArgument(String what, Runnable call) {
        refuses(what, call, IllegalArgumentException.class);
    }

    static void refusesState(String what, Runnable call) {
        refuses(what, call, IllegalStateException.class);
    }

    static void refusesIndex(String what, Runnable call) {
        refuses(what, call, IndexOutOfBoundsException.class);
    }

    private static void refuses(String what, Runnable call, Class<?> want) {
        Class<?> got = null;
        try {
            call.run();
        } catch (RuntimeException e) {
            got = e.getClass();
        }
        if (got != want) {
            wrong++;
            System.out.println(what + " threw " + got + ", due is " + want);
        }
    }

    static void state(ExchangeDesk x, int line, int want) {
        due("state of line " + line, x.line(line, 0), want);
    }

    static void with(ExchangeDesk x, int line, int want) {
        due("whom line " + line + " is with", x.line(line, 1), want);
    }

    static void path(ExchangeDesk x, int line, int want) {
        due("slot of line " + line, x.line(line, 2), want);
    }

    /** An idle line goes off the hook and dials: its state then. */
    static int dial(ExchangeDesk x, int line, int number) {
        x.up(line);
        x.digit(line, number / 10);
        return x.digit(line, number % 10);
    }

    /** Two idle lines talk; the first one called. */
    static void talk(ExchangeDesk x, int caller, int called) {
        due("dial " + caller + " to " + called, dial(x, caller, 10 + called), RINGBACK);
        due("answer of " + called, x.up(called), TALKING);
    }

    /** Leaves a unit only its lowest slots. */
    static void keepSlots(ExchangeDesk x, int unit, int kept) {
        for (int s = kept; s < 8; s++) {
            x.slot(unit, s, false);
        }
    }

    static void members(ExchangeDesk x, int g, int order, int... row) {
        x.group(g, -1, order);
        for (int line : row) {
            x.group(g, line, 0);
        }
    }

    static void entry(ExchangeDesk x, int k, int caller, int other, int began, int units) {
        due("caller of entry " + k, x.book(k, 0), caller);
        due("other one of entry " + k, x.book(k, 1), other);
        due("beginning of entry " + k, x.book(k, 2), began);
        due("units of entry " + k, x.book(k, 3), units);
    }

    static void end() {
        System.out.println(wrong == 0 ? "all answers are as due" : wrong + " answers are not as due");
        if (wrong != 0) {
            System.exit(1);
        }
    }
}
