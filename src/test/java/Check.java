/** Counts wrong answers and tells each with the promise and the sentence that it belongs to. */
final class Check {
    private static String sentence = "";
    private static int wrong = 0;

    private Check() {
    }

    /** Runs the test of one sentence of the document. */
    static void sentence(String name, Runnable test) {
        sentence = name;
        try {
            test.run();
        } catch (RuntimeException | AssertionError e) {
            tell("a call threw " + e);
        }
    }

    private static void tell(String fault) {
        wrong++;
        System.out.println(sentence + ": " + fault);
    }

    static void due(String what, int got, int want) {
        if (got != want) {
            tell(what + " answered " + got + ", due is " + want);
        }
    }

    static void holds(String what, boolean got) {
        if (!got) {
            tell(what + " does not hold");
        }
    }

    static void refusesArgument(String what, Runnable call) {
        refuses(what, call, IllegalArgumentException.class);
    }

    static void refusesState(String what, Runnable call) {
        refuses(what, call, IllegalStateException.class);
    }

    static void refusesIndex(String what, Runnable call) {
        refuses(what, call, IndexOutOfBoundsException.class);
    }

    private static void refuses(String what, Runnable call, Class<?> want) {
        Class<?> got = null;
        try {
            call.run();
        } catch (RuntimeException e) {
            got = e.getClass();
        }
        if (got != want) {
            tell(what + " threw " + got + ", due is " + want);
        }
    }

    /** Calls that must leave all that the exchange shows as it was. */
    static void changesNothing(Desk x, Runnable calls) {
        String before = new View(x).toString();
        calls.run();
        String after = new View(x).toString();
        if (!before.equals(after)) {
            tell("what was " + before + " is now " + after);
        }
    }

    static void state(Desk x, int line, int want) {
        due("state of line " + line, x.line(line, 0), want);
    }

    static void states(Desk x, int want, int... lines) {
        for (int line : lines) {
            state(x, line, want);
        }
    }

    static void with(Desk x, int line, int want) {
        due("whom line " + line + " is with", x.line(line, 1), want);
    }

    static void path(Desk x, int line, int want) {
        due("slot of line " + line, x.line(line, 2), want);
    }

    static void units(Desk x, int line, int want) {
        due("units of line " + line, x.line(line, 3), want);
    }

    static void rests(Desk x, int line, int want) {
        due("do not disturb of line " + line, x.line(line, 4), want);
    }

    static void camper(Desk x, int line, int want) {
        due("who camps at line " + line, x.line(line, 5), want);
    }

    static void blocked(Desk x, int want) {
        due("blocked calls", x.count(0), want);
    }

    static void entries(Desk x, int want) {
        due("entries", x.count(1), want);
    }

    static void slotsInUse(Desk x, int want) {
        due("slots in use", x.count(2), want);
    }

    static void dials(Desk x, int line, int number, int want) {
        due("line " + line + " dials " + number + ": it", x.dial(line, number), want);
    }

    static void entry(Desk x, int k, int caller, int other, int began, int units) {
        due("caller of entry " + k, x.book(k, 0), caller);
        due("other one of entry " + k, x.book(k, 1), other);
        due("beginning of entry " + k, x.book(k, 2), began);
        due("units of entry " + k, x.book(k, 3), units);
    }

    static void end() {
        System.out.println(wrong == 0 ? "all answers are as due" : wrong + " answers are not as due");
        if (wrong != 0) {
            System.exit(1);
        }
    }
}
