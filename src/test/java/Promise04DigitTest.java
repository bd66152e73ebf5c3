public final class Promise04DigitTest {
    public static void main(String[] args) {
        digitsAtTheirTime();
        linesByNumber();
        busyLines();
        paths();
        numbersOfNothing();
        doNotDisturb();
        refusals();
        Check.end();
    }

    private static void digitsAtTheirTime() {
        ExchangeDesk x = new ExchangeDesk();
        Check.due("on the hook", x.digit(0, 1), Check.IDLE);
        x.up(0);
        Check.due("first", x.digit(0, 1), Check.DIALLING);
        Check.due("second", x.digit(0, 3), Check.RINGBACK);
        Check.state(x, 3, Check.RINGING);
        Check.due("third", x.digit(0, 3), Check.RINGBACK);
        Check.due("when ringing", x.digit(3, 3), Check.RINGING);
        x.up(3);
        Check.due("when talking", x.digit(3, 3), Check.TALKING);
        x.down(0);
        Check.due("when busy", x.digit(3, 1), Check.BUSY);
        Check.due("when busy", x.digit(3, 4), Check.BUSY);
        Check.state(x, 4, Check.IDLE);
    }

    private static void linesByNumber() {
        ExchangeDesk x = new ExchangeDesk();
        Check.due("line 0", Check.dial(x, 5, 10), Check.RINGBACK);
        Check.with(x, 0, 5);
        Check.with(x, 5, 0);
        Check.due("line 23", Check.dial(x, 6, 33), Check.RINGBACK);
        Check.with(x, 23, 6);
        Check.state(x, 23, Check.RINGING);
    }

    private static void busyLines() {
        ExchangeDesk x = new ExchangeDesk();
        Check.due("itself", Check.dial(x, 5, 15), Check.BUSY);
        Check.refusesState("camp at itself", () -> x.camp(5));
        Check.due("off the hook", Check.dial(x, 6, 15), Check.BUSY);
        Check.dial(x, 7, 18);
        Check.due("ringing", Check.dial(x, 9, 18), Check.BUSY);
        Check.state(x, 8, Check.RINGING);
        Check.with(x, 8, 7);
        Check.due("blocked", x.count(0), 0);
    }

    private static void paths() {
        ExchangeDesk x = new ExchangeDesk();
        x.slot(0, 0, false);
        x.slot(1, 1, false);
        Check.dial(x, 0, 16);
        Check.path(x, 6, 2);
        Check.path(x, 0, 2);
        Check.dial(x, 1, 12);
        Check.path(x, 2, 1);
        Check.due("slots in use", x.count(2), 3);
        Check.keepSlots(x, 0, 3);
        Check.due("no path", Check.dial(x, 7, 13), Check.BUSY);
        Check.state(x, 3, Check.IDLE);
        Check.due("blocked", x.count(0), 1);
        Check.refusesState("camp after no path", () -> x.camp(7));
        Check.due("no path in the caller's unit", Check.dial(x, 3, 18), Check.BUSY);
        Check.due("blocked", x.count(0), 2);
        x.down(0);
        Check.due("a path again", Check.dial(x, 8, 10), Check.RINGBACK);
        Check.path(x, 8, 2);
    }

    private static void numbersOfNothing() {
        int[] numbers = {0, 1, 9, 34, 35, 39, 44, 45, 49, 53, 59, 64, 65, 69, 70, 88, 99};
        for (int number : numbers) {
            ExchangeDesk x = new ExchangeDesk();
            Check.due("dial " + number, Check.dial(x, 3, number), Check.BUSY);
            Check.due("blocked after " + number, x.count(0), 0);
            Check.due("slots after " + number, x.count(2), 0);
            Check.due("do not disturb after " + number, x.line(3, 4), 0);
            Check.refusesState("camp after " + number, () -> x.camp(3));
        }
    }

    private static void doNotDisturb() {
        ExchangeDesk x = new ExchangeDesk();
        Check.due("51", Check.dial(x, 2, 51), Check.BUSY);
        Check.due("on", x.line(2, 4), 1);
        Check.due("dial a resting line off the hook", Check.dial(x, 3, 12), Check.BUSY);
        Check.refusesState("not late for a resting line", () -> x.camp(3));
        x.down(2);
        x.down(3);
        Check.due("dial a resting line", Check.dial(x, 3, 12), Check.BUSY);
        Check.state(x, 2, Check.IDLE);
        Check.due("a resting line dials", Check.dial(x, 2, 14), Check.RINGBACK);
        x.down(2);
        Check.due("52", Check.dial(x, 2, 52), Check.BUSY);
        Check.due("off", x.line(2, 4), 0);
        x.down(2);
        x.down(3);
        Check.due("dial again", Check.dial(x, 3, 12), Check.RINGBACK);
    }

    private static void refusals() {
        ExchangeDesk x = new ExchangeDesk();
        Check.refusesArgument("digit(-1, 0)", () -> x.digit(-1, 0));
        Check.refusesArgument("digit(24, 0)", () -> x.digit(24, 0));
        Check.refusesArgument("digit(0, -1) on the hook", () -> x.digit(0, -1));
        x.up(0);
        Check.refusesArgument("digit(0, 10)", () -> x.digit(0, 10));
        Check.refusesArgument("digit(0, -1)", () -> x.digit(0, -1));
        Check.state(x, 0, Check.DIAL_TONE);
    }
}
