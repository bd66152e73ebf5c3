public final class Promise03DownTest {
    public static void main(String[] args) {
        toneEnds();
        talkEnds();
        ringbackEnds();
        parkedLeavesItsPlace();
        campIsOver();
        refusals();
        Check.end();
    }

    private static void toneEnds() {
        ExchangeDesk x = new ExchangeDesk();
        x.up(4);
        x.down(4);
        Check.state(x, 4, Check.IDLE);
        x.up(4);
        x.digit(4, 1);
        x.down(4);
        Check.state(x, 4, Check.IDLE);
        x.up(4);
        Check.due("a new first digit", x.digit(4, 2), Check.DIALLING);
        x.tick(100);
        Check.state(x, 4, Check.HOWLER);
        x.down(4);
        Check.state(x, 4, Check.IDLE);
    }

    private static void talkEnds() {
        ExchangeDesk x = new ExchangeDesk();
        Check.talk(x, 0, 12);
        x.down(12);
        Check.state(x, 12, Check.IDLE);
        Check.state(x, 0, Check.BUSY);
        Check.with(x, 0, -1);
        Check.path(x, 0, -1);
        Check.due("slots in use", x.count(2), 0);
        Check.due("slot of unit 0", x.carries(0, 0), -1);
        Check.due("slot of unit 2", x.carries(2, 0), -1);
        Check.due("entries", x.count(1), 1);
        x.down(0);
        Check.state(x, 0, Check.IDLE);
        Check.due("entries", x.count(1), 1);
    }

    private static void ringbackEnds() {
        ExchangeDesk x = new ExchangeDesk();
        Check.members(x, 2, 3, 20, 7, 1);
        Check.dial(x, 0, 42);
        Check.dial(x, 3, 32);
        x.down(0);
        Check.state(x, 0, Check.IDLE);
        Check.state(x, 20, Check.IDLE);
        Check.state(x, 7, Check.IDLE);
        Check.state(x, 1, Check.IDLE);
        Check.state(x, 22, Check.RINGING);
        Check.due("slots in use", x.count(2), 2);
        Check.due("no entry", x.count(1), 0);
        Check.dial(x, 23, 10);
        x.down(23);
        Check.state(x, 0, Check.IDLE);
        Check.dial(x, 1, 33);
        x.down(1);
        Check.state(x, 23, Check.IDLE);
    }

    private static void parkedLeavesItsPlace() {
        ExchangeDesk x = new ExchangeDesk();
        Check.talk(x, 0, 1);
        x.park(0, 3);
        x.down(1);
        Check.state(x, 1, Check.IDLE);
        Check.due("nobody at place 3", Check.dial(x, 2, 63), Check.BUSY);
        Check.talk(x, 4, 5);
        Check.due("the place is free", x.park(4, 3), 5);
    }

    private static void campIsOver() {
        ExchangeDesk x = new ExchangeDesk();
        x.up(0);
        Check.dial(x, 1, 10);
        x.camp(1);
        x.down(1);
        Check.state(x, 1, Check.IDLE);
        Check.due("nobody camps", x.line(0, 5), -1);
        x.down(0);
        Check.state(x, 0, Check.IDLE);
        Check.state(x, 1, Check.IDLE);
    }

    private static void refusals() {
        ExchangeDesk x = new ExchangeDesk();
        Check.refusesArgument("down(-1)", () -> x.down(-1));
        Check.refusesArgument("down(24)", () -> x.down(24));
        Check.refusesState("down when idle", () -> x.down(5));
        Check.dial(x, 0, 15);
        Check.refusesState("down when ringing", () -> x.down(5));
        Check.state(x, 5, Check.RINGING);
    }
}
