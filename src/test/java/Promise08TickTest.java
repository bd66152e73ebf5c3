public final class Promise08TickTest {
    public static void main(String[] args) {
        time();
        dialling();
        ringback();
        parked();
        statesWithoutTimers();
        oneTickAfterTheOther();
        Check.end();
    }

    private static void time() {
        ExchangeDesk x = new ExchangeDesk();
        Check.due("tick(1)", x.tick(1), 1);
        Check.due("tick(1000)", x.tick(1000), 1001);
        Check.refusesArgument("tick(0)", () -> x.tick(0));
        Check.refusesArgument("tick(-1)", () -> x.tick(-1));
        Check.refusesArgument("tick(1001)", () -> x.tick(1001));
        Check.refusesArgument("tick(least)", () -> x.tick(Integer.MIN_VALUE));
        Check.due("tick(2)", x.tick(2), 1003);
    }

    private static void dialling() {
        ExchangeDesk x = new ExchangeDesk();
        x.tick(7);
        x.up(0);
        x.up(1);
        x.tick(99);
        Check.state(x, 0, Check.DIAL_TONE);
        x.digit(1, 1);
        x.tick(1);
        Check.state(x, 0, Check.HOWLER);
        Check.with(x, 0, -1);
        Check.due("digit with howler", x.digit(0, 1), Check.HOWLER);
        x.tick(98);
        Check.state(x, 1, Check.DIALLING);
        x.tick(1);
        Check.state(x, 1, Check.HOWLER);
        Check.refusesState("camp with howler", () -> x.camp(1));
        x.down(1);
        Check.state(x, 1, Check.IDLE);
    }

    private static void ringback() {
        ExchangeDesk x = new ExchangeDesk();
        Check.members(x, 0, 3, 1, 7, 13);
        x.tick(3);
        Check.dial(x, 0, 40);
        x.tick(299);
        Check.state(x, 0, Check.RINGBACK);
        Check.state(x, 13, Check.RINGING);
        x.tick(1);
        Check.state(x, 0, Check.BUSY);
        Check.state(x, 1, Check.IDLE);
        Check.state(x, 7, Check.IDLE);
        Check.state(x, 13, Check.IDLE);
        Check.due("slots in use", x.count(2), 0);
        Check.due("entries", x.count(1), 0);
        Check.refusesState("camp after ringback", () -> x.camp(0));
    }

    private static void parked() {
        ExchangeDesk x = new ExchangeDesk();
        Check.talk(x, 0, 1);
        x.tick(40);
        x.park(0, 0);
        x.tick(599);
        Check.state(x, 1, Check.PARKED);
        x.tick(1);
        Check.state(x, 1, Check.BUSY);
        Check.with(x, 1, -1);
        Check.due("the place is empty", Check.dial(x, 2, 60), Check.BUSY);
        Check.talk(x, 3, 4);
        Check.due("the place is free", x.park(3, 0), 4);
    }

    private static void statesWithoutTimers() {
        ExchangeDesk x = new ExchangeDesk();
        Check.talk(x, 0, 1);
        Check.dial(x, 2, 10);
        x.camp(2);
        Check.dial(x, 3, 99);
        x.up(4);
        x.tick(1000);
        x.tick(1000);
        Check.state(x, 0, Check.TALKING);
        Check.state(x, 1, Check.TALKING);
        Check.state(x, 2, Check.CAMPED);
        Check.state(x, 3, Check.BUSY);
        Check.state(x, 4, Check.HOWLER);
        Check.state(x, 5, Check.IDLE);
    }

    private static void oneTickAfterTheOther() {
        ExchangeDesk one = new ExchangeDesk();
        ExchangeDesk many = new ExchangeDesk();
        prepare(one);
        prepare(many);
        one.tick(700);
        for (int i = 0; i < 100; i++) {
            many.tick(7);
        }
        for (int l = 0; l < 24; l++) {
            for (int what = 0; what < 6; what++) {
                Check.due("line " + l + ", " + what, one.line(l, what), many.line(l, what));
            }
        }
        Check.state(one, 2, Check.BUSY);
        Check.state(one, 1, Check.IDLE);
        // The member became idle at tick 300, not when the long tick() ended.
        one.tick(1);
        Check.members(one, 0, 2, 5, 1);
        one.up(5);
        one.down(5);
        Check.dial(one, 6, 40);
        Check.with(one, 6, 1);
    }

    /** A ringing line at which one camps: both timers run out within one long tick(). */
    private static void prepare(ExchangeDesk x) {
        Check.dial(x, 0, 11);
        Check.dial(x, 2, 11);
        x.camp(2);
        x.up(3);
        Check.talk(x, 8, 9);
        x.park(8, 1);
    }
}
