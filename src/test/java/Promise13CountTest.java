public final class Promise13CountTest {
    public static void main(String[] args) {
        blocked();
        entries();
        slots();
        ExchangeDesk x = new ExchangeDesk();
        Check.refusesArgument("no such what", () -> x.count(-1));
        Check.refusesArgument("no such what", () -> x.count(3));
        Check.end();
    }

    private static void blocked() {
        ExchangeDesk x = new ExchangeDesk();
        Check.keepSlots(x, 0, 1);
        Check.dial(x, 0, 11);
        Check.due("blocked", x.count(0), 0);
        Check.dial(x, 2, 13);
        Check.due("by a line", x.count(0), 1);
        x.group(0, 3, 0);
        Check.dial(x, 6, 40);
        Check.due("by a group", x.count(0), 2);
        Check.talk(x, 7, 8);
        x.park(7, 0);
        Check.dial(x, 4, 60);
        Check.due("by parking", x.count(0), 3);
        Check.dial(x, 9, 10);
        Check.due("busy is not blocked", x.count(0), 3);
    }

    private static void entries() {
        ExchangeDesk x = new ExchangeDesk();
        Check.talk(x, 0, 1);
        Check.due("a call that goes on", x.count(1), 0);
        x.park(0, 0);
        Check.due("by parking", x.count(1), 1);
        Check.dial(x, 2, 60);
        x.transfer(1, 13);
        Check.due("by transfer", x.count(1), 2);
        x.up(3);
        x.down(2);
        Check.due("by down", x.count(1), 3);
    }

    private static void slots() {
        ExchangeDesk x = new ExchangeDesk();
        Check.dial(x, 0, 11);
        Check.due("one unit", x.count(2), 1);
        Check.dial(x, 2, 18);
        Check.due("two units", x.count(2), 3);
        Check.dial(x, 12, 28);
        Check.due("two units", x.count(2), 5);
        x.up(8);
        Check.due("talking", x.count(2), 5);
        x.down(2);
        Check.due("freed", x.count(2), 3);
    }
}
