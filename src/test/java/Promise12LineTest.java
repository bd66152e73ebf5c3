public final class Promise12LineTest {
    public static void main(String[] args) {
        whomItIsWith();
        units();
        refusals();
        Check.end();
    }

    private static void whomItIsWith() {
        ExchangeDesk x = new ExchangeDesk();
        Check.members(x, 0, 3, 14, 9, 11);
        x.up(6);
        Check.with(x, 6, -1);
        x.digit(6, 4);
        Check.with(x, 6, -1);
        x.digit(6, 0);
        Check.with(x, 6, 9);
        Check.path(x, 6, 1);
        Check.with(x, 14, 6);
        Check.path(x, 14, 0);
        Check.with(x, 11, 6);
        Check.path(x, 11, 2);
        Check.dial(x, 0, 24);
        x.camp(0);
        Check.with(x, 0, 14);
        Check.path(x, 0, -1);
        Check.due("who camps at 14", x.line(14, 5), 0);
        Check.due("who camps at 9", x.line(9, 5), -1);
        x.up(11);
        Check.with(x, 11, 6);
        Check.with(x, 6, 11);
        Check.path(x, 6, 2);
        Check.with(x, 9, -1);
        Check.path(x, 9, -1);
        Check.with(x, 14, 0);
        x.park(6, 3);
        Check.with(x, 11, 3);
        Check.path(x, 11, -1);
        Check.with(x, 6, -1);
        Check.path(x, 6, -1);
    }

    private static void units() {
        ExchangeDesk x = new ExchangeDesk();
        Check.dial(x, 0, 11);
        x.tick(120);
        Check.due("ringback costs nothing", x.line(0, 3), 0);
        x.up(1);
        Check.due("at once", x.line(0, 3), 1);
        Check.due("the other one", x.line(1, 3), 0);
        x.tick(59);
        Check.due("59 ticks", x.line(0, 3), 1);
        x.tick(1);
        Check.due("60 ticks", x.line(0, 3), 2);
        x.tick(59);
        Check.due("119 ticks", x.line(0, 3), 2);
        x.down(1);
        x.tick(500);
        Check.due("ended", x.line(0, 3), 2);
        x.down(0);
        Check.talk(x, 1, 0);
        Check.due("the other one calls", x.line(1, 3), 1);
        Check.due("0 does not pay", x.line(0, 3), 2);
        x.down(0);
        x.down(1);
        Check.talk(x, 0, 5);
        x.tick(60);
        Check.due("all calls", x.line(0, 3), 4);
    }

    private static void refusals() {
        ExchangeDesk x = new ExchangeDesk();
        Check.refusesArgument("no such line", () -> x.line(-1, 0));
        Check.refusesArgument("no such line", () -> x.line(24, 0));
        Check.refusesArgument("no such what", () -> x.line(0, -1));
        Check.refusesArgument("no such what", () -> x.line(0, 6));
    }
}
