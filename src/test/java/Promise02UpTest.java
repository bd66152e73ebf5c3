public final class Promise02UpTest {
    public static void main(String[] args) {
        idleLineGetsDialTone();
        ringingLineAnswers();
        othersOfAGroupStopRinging();
        refusals();
        Check.end();
    }

    private static void idleLineGetsDialTone() {
        ExchangeDesk x = new ExchangeDesk();
        Check.due("up(0)", x.up(0), Check.DIAL_TONE);
        Check.due("up(23)", x.up(23), Check.DIAL_TONE);
        Check.state(x, 0, Check.DIAL_TONE);
        Check.with(x, 0, -1);
    }

    private static void ringingLineAnswers() {
        ExchangeDesk x = new ExchangeDesk();
        Check.dial(x, 2, 23);
        Check.dial(x, 3, 24);
        Check.path(x, 14, 1);
        Check.due("up(14)", x.up(14), Check.TALKING);
        Check.state(x, 3, Check.TALKING);
        Check.with(x, 14, 3);
        Check.with(x, 3, 14);
        Check.path(x, 14, 1);
        Check.path(x, 3, 1);
        Check.state(x, 13, Check.RINGING);
        Check.state(x, 2, Check.RINGBACK);
        Check.due("slots in use", x.count(2), 4);
    }

    private static void othersOfAGroupStopRinging() {
        ExchangeDesk x = new ExchangeDesk();
        Check.members(x, 0, 3, 9, 1, 15);
        Check.dial(x, 0, 40);
        Check.due("slots of three paths", x.count(2), 5);
        Check.due("up(1)", x.up(1), Check.TALKING);
        Check.state(x, 9, Check.IDLE);
        Check.state(x, 15, Check.IDLE);
        Check.path(x, 0, 1);
        Check.due("slots in use", x.count(2), 1);
        Check.due("carried", x.carries(0, 1), 0);
        Check.due("freed", x.carries(0, 0), -1);
        Check.due("freed", x.carries(1, 0), -1);
        Check.due("freed", x.carries(2, 2), -1);
        Check.due("up(9) afterwards", x.up(9), Check.DIAL_TONE);
    }

    private static void refusals() {
        ExchangeDesk x = new ExchangeDesk();
        Check.refusesArgument("up(-1)", () -> x.up(-1));
        Check.refusesArgument("up(24)", () -> x.up(24));
        Check.refusesArgument("up(least)", () -> x.up(Integer.MIN_VALUE));
        x.up(0);
        Check.refusesState("up with dial tone", () -> x.up(0));
        x.digit(0, 1);
        Check.refusesState("up when dialling", () -> x.up(0));
        x.digit(0, 1);
        Check.refusesState("up with ringback", () -> x.up(0));
        x.up(1);
        Check.refusesState("up when talking", () -> x.up(0));
        Check.refusesState("up when talking", () -> x.up(1));
        x.park(0, 0);
        Check.refusesState("up when busy", () -> x.up(0));
        Check.refusesState("up when parked", () -> x.up(1));
        Check.state(x, 1, Check.PARKED);
        Check.dial(x, 2, 10);
        x.camp(2);
        Check.refusesState("up when camped", () -> x.up(2));
        x.up(3);
        x.tick(100);
        Check.refusesState("up with howler", () -> x.up(3));
    }
}
