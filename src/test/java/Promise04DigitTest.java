/** Promise 4: when a digit counts, and which ones there are. */
public final class Promise04DigitTest {
    public static void main(String[] args) {
        Check.sentence("Promise 4, with dial tone it is the first digit", Promise04DigitTest::firstDigit);
        Check.sentence("Promise 4, when dialling it is the second digit", Promise04DigitTest::secondDigit);
        Check.sentence("Promise 4, at other times nothing happens", Promise04DigitTest::atOtherTimes);
        Check.sentence("Promise 4, IllegalArgumentException: no such line", Promise04DigitTest::noSuchLine);
        Check.sentence("Promise 4, IllegalArgumentException: no such digit", Promise04DigitTest::noSuchDigit);
        Check.sentence("Promise 4, a refused digit is not dialled", Promise04DigitTest::refusedDigitIsNotDialled);
        Check.end();
    }

    private static void firstDigit() {
        for (int d = 0; d <= 9; d++) {
            Desk x = Desk.with(0, State.DIAL_TONE);
            Check.due("first digit " + d, x.digit(0, d), State.DIALLING);
            Check.state(x, 0, State.DIALLING);
            Check.with(x, 0, -1);
        }
    }

    private static void secondDigit() {
        for (int d = 0; d <= 9; d++) {
            Desk x = new Desk();
            x.up(23);
            x.digit(23, 1);
            Check.due("second digit " + d, x.digit(23, d), State.RINGBACK);
            Check.with(x, 23, d);
        }
    }

    private static void atOtherTimes() {
        for (int state : State.allBut(State.DIAL_TONE, State.DIALLING)) {
            Desk x = Desk.with(0, state);
            Check.changesNothing(x, () -> {
                Check.due("digit in state " + state, x.digit(0, 1), state);
                Check.due("one more in state " + state, x.digit(0, 2), state);
            });
        }
    }

    private static void noSuchLine() {
        Desk x = new Desk();
        Check.changesNothing(x, () -> {
            Check.refusesArgument("digit(-1, 0)", () -> x.digit(-1, 0));
            Check.refusesArgument("digit(24, 0)", () -> x.digit(24, 0));
            Check.refusesArgument("digit(least, 0)", () -> x.digit(Integer.MIN_VALUE, 0));
            Check.refusesArgument("digit(greatest, 0)", () -> x.digit(Integer.MAX_VALUE, 0));
        });
    }

    private static void noSuchDigit() {
        for (int state : State.allBut()) {
            Desk x = Desk.with(0, state);
            Check.changesNothing(x, () -> {
                Check.refusesArgument("digit(0, -1) in state " + state, () -> x.digit(0, -1));
                Check.refusesArgument("digit(0, 10) in state " + state, () -> x.digit(0, 10));
                Check.refusesArgument("digit(0, least)", () -> x.digit(0, Integer.MIN_VALUE));
                Check.refusesArgument("digit(0, greatest)", () -> x.digit(0, Integer.MAX_VALUE));
            });
        }
    }

    private static void refusedDigitIsNotDialled() {
        Desk x = new Desk();
        x.up(0);
        Check.refusesArgument("first digit 10", () -> x.digit(0, 10));
        Check.due("first digit", x.digit(0, 1), State.DIALLING);
        Check.refusesArgument("second digit -1", () -> x.digit(0, -1));
        Check.due("second digit", x.digit(0, 7), State.RINGBACK);
        Check.with(x, 0, 7);
    }
}
