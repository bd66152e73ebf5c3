public final class Promise06ParkTest {
    public static void main(String[] args) {
        parks();
        isTaken();
        staysWithoutAPath();
        refusals();
        Check.end();
    }

    private static void parks() {
        ExchangeDesk x = new ExchangeDesk();
        Check.talk(x, 0, 8);
        Check.due("park", x.park(8, 0), 0);
        Check.state(x, 0, Check.PARKED);
        Check.with(x, 0, 0);
        Check.path(x, 0, -1);
        Check.state(x, 8, Check.BUSY);
        Check.with(x, 8, -1);
        Check.due("slots in use", x.count(2), 0);
        Check.due("entries", x.count(1), 1);
        Check.talk(x, 1, 9);
        Check.due("park", x.park(1, 3), 9);
        Check.with(x, 9, 3);
        Check.due("digit when parked", x.digit(9, 1), Check.PARKED);
        Check.refusesState("camp when busy by parking", () -> x.camp(1));
    }

    private static void isTaken() {
        ExchangeDesk x = new ExchangeDesk();
        Check.talk(x, 0, 8);
        x.tick(10);
        x.park(0, 2);
        x.tick(5);
        Check.due("nobody at place 1", Check.dial(x, 13, 61), Check.BUSY);
        Check.due("take", Check.dial(x, 14, 62), Check.TALKING);
        Check.state(x, 8, Check.TALKING);
        Check.with(x, 8, 14);
        Check.with(x, 14, 8);
        Check.path(x, 14, 0);
        Check.due("carried", x.carries(2, 0), 8);
        Check.due("place 2 is free", Check.dial(x, 15, 62), Check.BUSY);
        x.tick(120);
        Check.due("the parked one pays", x.line(8, 3), 3);
        Check.due("the taker does not", x.line(14, 3), 0);
        x.down(8);
        Check.entry(x, 0, 0, 8, 0, 1);
        Check.entry(x, 1, 8, 14, 15, 3);
    }

    private static void staysWithoutAPath() {
        ExchangeDesk x = new ExchangeDesk();
        Check.talk(x, 0, 8);
        x.park(0, 2);
        Check.keepSlots(x, 1, 0);
        Check.due("no path", Check.dial(x, 1, 62), Check.BUSY);
        Check.due("blocked", x.count(0), 1);
        Check.state(x, 8, Check.PARKED);
        x.slot(1, 4, true);
        Check.due("a path", Check.dial(x, 2, 62), Check.TALKING);
        Check.path(x, 8, 4);
        x.tick(700);
        Check.state(x, 8, Check.TALKING);
    }

    private static void refusals() {
        ExchangeDesk x = new ExchangeDesk();
        Check.refusesArgument("no such line", () -> x.park(24, 0));
        Check.refusesArgument("no such line", () -> x.park(-1, 0));
        Check.refusesArgument("no such place, not talking", () -> x.park(0, 4));
        Check.refusesState("not talking", () -> x.park(0, 0));
        Check.talk(x, 0, 1);
        Check.refusesArgument("no such place", () -> x.park(0, 4));
        Check.refusesArgument("no such place", () -> x.park(0, -1));
        x.park(0, 0);
        Check.refusesState("busy", () -> x.park(0, 1));
        Check.refusesState("parked", () -> x.park(1, 1));
        Check.talk(x, 2, 3);
        Check.refusesState("not free", () -> x.park(3, 0));
        Check.state(x, 2, Check.TALKING);
        Check.dial(x, 4, 15);
        Check.refusesState("ringback", () -> x.park(4, 1));
        Check.refusesState("ringing", () -> x.park(5, 1));
    }
}
