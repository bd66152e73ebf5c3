public final class Promise07TransferTest {
    public static void main(String[] args) {
        toALine();
        lateAndBack();
        toOtherNumbers();
        usesTheFreedPath();
        refusals();
        Check.end();
    }

    private static void toALine() {
        ExchangeDesk x = new ExchangeDesk();
        Check.talk(x, 0, 8);
        x.tick(61);
        Check.due("transfer", x.transfer(0, 24), Check.RINGBACK);
        Check.state(x, 0, Check.BUSY);
        Check.with(x, 0, -1);
        Check.with(x, 8, 14);
        Check.with(x, 14, 8);
        Check.due("entries", x.count(1), 1);
        Check.entry(x, 0, 0, 8, 0, 2);
        x.up(14);
        x.tick(60);
        x.down(14);
        Check.entry(x, 1, 8, 14, 61, 2);
        Check.due("paid by 0", x.line(0, 3), 2);
        Check.due("paid by 8", x.line(8, 3), 2);
    }

    private static void lateAndBack() {
        ExchangeDesk x = new ExchangeDesk();
        Check.talk(x, 0, 8);
        Check.due("back to whom it talked with", x.transfer(0, 10), Check.BUSY);
        Check.due("late for it", x.camp(8), 0);
        x.down(0);
        Check.with(x, 0, 8);
        Check.state(x, 0, Check.RINGING);
        x.up(0);
        Check.due("to itself", x.transfer(0, 18), Check.BUSY);
        Check.refusesState("not late", () -> x.camp(8));
        Check.refusesState("not late", () -> x.camp(0));
    }

    private static void toOtherNumbers() {
        ExchangeDesk x = new ExchangeDesk();
        Check.members(x, 1, 0, 8, 20);
        Check.talk(x, 0, 8);
        Check.due("group without the caller", x.transfer(0, 41), Check.RINGBACK);
        Check.with(x, 8, 20);
        Check.talk(x, 1, 2);
        Check.due("do not disturb", x.transfer(1, 51), Check.BUSY);
        Check.due("of the other one", x.line(2, 4), 1);
        Check.due("not of the line", x.line(1, 4), 0);
        Check.talk(x, 3, 4);
        x.park(3, 1);
        Check.talk(x, 12, 13);
        Check.due("parked one", x.transfer(12, 61), Check.TALKING);
        Check.with(x, 13, 4);
        Check.due("99", x.transfer(13, 99), Check.BUSY);
        Check.state(x, 4, Check.BUSY);
        Check.talk(x, 5, 6);
        Check.due("pick-up", x.transfer(5, 50), Check.BUSY);
    }

    private static void usesTheFreedPath() {
        ExchangeDesk x = new ExchangeDesk();
        Check.keepSlots(x, 1, 1);
        Check.talk(x, 0, 8);
        Check.due("by the one slot", x.transfer(0, 17), Check.RINGBACK);
        Check.path(x, 8, 0);
        Check.due("slots in use", x.count(2), 1);
    }

    private static void refusals() {
        ExchangeDesk x = new ExchangeDesk();
        Check.refusesArgument("no such number, not talking", () -> x.transfer(0, 9));
        Check.refusesState("not talking", () -> x.transfer(0, 10));
        Check.talk(x, 0, 1);
        Check.refusesArgument("no such line", () -> x.transfer(-1, 12));
        Check.refusesArgument("no such line", () -> x.transfer(24, 12));
        Check.refusesArgument("no such number", () -> x.transfer(0, 9));
        Check.refusesArgument("no such number", () -> x.transfer(0, 100));
        Check.refusesArgument("no such number", () -> x.transfer(0, -12));
        Check.state(x, 0, Check.TALKING);
        x.down(1);
        Check.refusesState("busy", () -> x.transfer(0, 12));
        Check.dial(x, 2, 13);
        Check.refusesState("ringback", () -> x.transfer(2, 14));
        Check.refusesState("ringing", () -> x.transfer(3, 14));
    }
}
