/** Promise 4 with the numbers 40 to 43: what each order takes. */
public final class GroupNumbersTest {
    public static void main(String[] args) {
        orderFirst();
        orderAround();
        orderAroundBeginsAnew();
        orderLongestIdle();
        orderAll();
        orderAllGoesOnBehindAMissingPath();
        nobodyToTake();
        aPathAloneIsMissing();
        Check.end();
    }

    private static void rings(ExchangeDesk x, int caller, int number, int want) {
        Check.due("dial " + number, Check.dial(x, caller, number), Check.RINGBACK);
        Check.with(x, caller, want);
        Check.state(x, want, Check.RINGING);
        x.down(caller);
    }

    private static void orderFirst() {
        ExchangeDesk x = new ExchangeDesk();
        Check.members(x, 0, 0, 3, 2, 9);
        rings(x, 0, 40, 3);
        rings(x, 0, 40, 3);
        rings(x, 3, 40, 2);
        Check.dial(x, 3, 51);
        x.down(3);
        rings(x, 0, 40, 2);
        x.up(2);
        rings(x, 0, 40, 9);
        x.slot(0, 0, false);
        Check.keepSlots(x, 1, 1);
        x.down(2);
        Check.dial(x, 2, 51);
        x.down(2);
        Check.due("no path to 9", Check.dial(x, 0, 40), Check.BUSY);
        Check.dial(x, 3, 52);
        x.down(3);
        rings(x, 1, 40, 3);
    }

    private static void orderAround() {
        ExchangeDesk x = new ExchangeDesk();
        Check.members(x, 1, 1, 8, 4, 6);
        rings(x, 0, 41, 8);
        rings(x, 0, 41, 4);
        rings(x, 4, 41, 6);
        rings(x, 0, 41, 8);
        x.up(4);
        rings(x, 0, 41, 6);
        x.down(4);
        Check.due("a direct call", Check.dial(x, 1, 18), Check.RINGBACK);
        rings(x, 0, 41, 4);
        Check.due("a new member behind the last one", x.group(1, 20, 0), 4);
        rings(x, 0, 41, 6);
        rings(x, 0, 41, 20);
        rings(x, 0, 41, 4);
        x.up(6);
        x.up(20);
        rings(x, 0, 41, 4);
    }

    private static void orderAroundBeginsAnew() {
        ExchangeDesk x = new ExchangeDesk();
        Check.members(x, 1, 1, 8, 4, 6);
        rings(x, 0, 41, 8);
        Check.members(x, 1, 1, 8, 4, 6);
        rings(x, 0, 41, 8);
        Check.members(x, 2, 1, 8, 4, 6);
        rings(x, 0, 42, 8);
        rings(x, 0, 41, 4);
    }

    private static void orderLongestIdle() {
        ExchangeDesk x = new ExchangeDesk();
        Check.members(x, 2, 2, 5, 9, 7);
        rings(x, 0, 42, 5);
        rings(x, 0, 42, 9);
        rings(x, 0, 42, 7);
        rings(x, 0, 42, 5);
        x.tick(3);
        rings(x, 0, 42, 5);
        rings(x, 0, 42, 9);
        x.tick(2);
        rings(x, 0, 42, 7);
        rings(x, 0, 42, 5);
        x.up(5);
        x.down(5);
        rings(x, 5, 42, 9);
        x.tick(1);
        Check.dial(x, 7, 51);
        x.down(7);
        rings(x, 0, 42, 5);
    }

    private static void orderAll() {
        ExchangeDesk x = new ExchangeDesk();
        Check.members(x, 3, 3, 14, 2, 1, 0, 3);
        x.up(3);
        Check.dial(x, 2, 51);
        x.down(2);
        Check.due("all", Check.dial(x, 0, 43), Check.RINGBACK);
        Check.state(x, 14, Check.RINGING);
        Check.state(x, 1, Check.RINGING);
        Check.state(x, 2, Check.IDLE);
        Check.state(x, 3, Check.DIAL_TONE);
        Check.path(x, 14, 0);
        Check.path(x, 1, 1);
        Check.with(x, 0, 1);
        Check.path(x, 0, 1);
        Check.with(x, 14, 0);
        Check.due("blocked", x.count(0), 0);
    }

    private static void orderAllGoesOnBehindAMissingPath() {
        ExchangeDesk x = new ExchangeDesk();
        Check.members(x, 0, 3, 6, 7, 13);
        Check.keepSlots(x, 1, 1);
        Check.due("all that have a path", Check.dial(x, 0, 40), Check.RINGBACK);
        Check.state(x, 6, Check.RINGING);
        Check.state(x, 7, Check.IDLE);
        Check.state(x, 13, Check.RINGING);
        Check.path(x, 13, 1);
        Check.due("blocked", x.count(0), 0);
    }

    private static void nobodyToTake() {
        for (int order = 0; order < 4; order++) {
            ExchangeDesk x = new ExchangeDesk();
            Check.members(x, 0, order, 1, 2, 3);
            Check.dial(x, 1, 51);
            x.down(1);
            x.up(2);
            Check.due("nobody", Check.dial(x, 3, 40), Check.BUSY);
            Check.due("blocked", x.count(0), 0);
            Check.refusesState("late for no line", () -> x.camp(3));
        }
    }

    private static void aPathAloneIsMissing() {
        for (int order = 0; order < 4; order++) {
            ExchangeDesk x = new ExchangeDesk();
            Check.members(x, 0, order, 7, 6, 8, 9);
            x.up(7);
            Check.keepSlots(x, 1, 0);
            Check.due("no path", Check.dial(x, 3, 40), Check.BUSY);
            Check.due("blocked once", x.count(0), 1);
            Check.state(x, 6, Check.IDLE);
            x.group(0, 2, 0);
            Check.due("the last one has a path", Check.dial(x, 4, 40), Check.RINGBACK);
            Check.with(x, 4, 2);
            Check.due("blocked once", x.count(0), 1);
        }
    }
}
