public final class Promise10SlotTest {
    public static void main(String[] args) {
        outOfOrderAndBack();
        outOfOrderIsNotTaken();
        refusals();
        Check.end();
    }

    private static void outOfOrderAndBack() {
        ExchangeDesk x = new ExchangeDesk();
        x.slot(3, 7, false);
        Check.due("out of order", x.carries(3, 7), -2);
        Check.due("another unit", x.carries(2, 7), -1);
        x.slot(3, 7, false);
        Check.due("still out of order", x.carries(3, 7), -2);
        x.slot(3, 7, true);
        Check.due("in order", x.carries(3, 7), -1);
        x.slot(3, 7, true);
        Check.due("still in order", x.carries(3, 7), -1);
        x.slot(0, 0, false);
        Check.due("not in use", x.count(2), 0);
    }

    private static void outOfOrderIsNotTaken() {
        ExchangeDesk x = new ExchangeDesk();
        x.slot(0, 0, false);
        Check.dial(x, 0, 11);
        Check.path(x, 0, 1);
        Check.dial(x, 6, 12);
        Check.path(x, 6, 2);
        x.slot(0, 0, true);
        Check.dial(x, 7, 13);
        Check.path(x, 7, 0);
    }

    private static void refusals() {
        ExchangeDesk x = new ExchangeDesk();
        Check.refusesArgument("no such unit", () -> x.slot(-1, 0, true));
        Check.refusesArgument("no such unit", () -> x.slot(4, 0, true));
        Check.refusesArgument("no such slot", () -> x.slot(0, -1, false));
        Check.refusesArgument("no such slot", () -> x.slot(0, 8, false));
        Check.dial(x, 0, 22);
        Check.refusesState("in use by ringing", () -> x.slot(0, 0, false));
        Check.refusesState("in use by ringing", () -> x.slot(2, 0, false));
        Check.refusesState("in use, in order", () -> x.slot(2, 0, true));
        x.slot(1, 0, false);
        x.up(12);
        Check.refusesState("in use by talking", () -> x.slot(0, 0, false));
        x.down(12);
        x.slot(0, 0, false);
        Check.due("out of order", x.carries(0, 0), -2);
    }
}
