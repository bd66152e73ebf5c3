public final class Promise09GroupTest {
    public static void main(String[] args) {
        rowGrows();
        rowIsEmptiedWithAnOrder();
        groupsAreApart();
        refusals();
        Check.end();
    }

    private static void rowGrows() {
        ExchangeDesk x = new ExchangeDesk();
        for (int i = 0; i < 6; i++) {
            Check.due("member", x.group(3, 23 - i, 0), i + 1);
        }
        Check.refusesState("the seventh", () -> x.group(3, 0, 0));
        Check.refusesArgument("a member of a full row", () -> x.group(3, 20, 0));
        Check.due("empty again", x.group(3, -1, 0), 0);
        Check.due("member", x.group(3, 20, 0), 1);
    }

    private static void rowIsEmptiedWithAnOrder() {
        ExchangeDesk x = new ExchangeDesk();
        x.group(0, 1, 0);
        Check.due("empty", x.group(0, -1, 3), 0);
        Check.due("nobody", Check.dial(x, 0, 40), Check.BUSY);
        x.down(0);
        x.group(0, 2, 0);
        x.group(0, 3, 1);
        Check.due("all", Check.dial(x, 0, 40), Check.RINGBACK);
        Check.state(x, 2, Check.RINGING);
        Check.state(x, 3, Check.RINGING);
        Check.due("emptied while they ring", x.group(0, -1, 0), 0);
        Check.due("answer", x.up(3), Check.TALKING);
        Check.state(x, 2, Check.IDLE);
    }

    private static void groupsAreApart() {
        ExchangeDesk x = new ExchangeDesk();
        Check.due("group 0", x.group(0, 5, 0), 1);
        Check.due("group 1", x.group(1, 5, 0), 1);
        x.group(1, -1, 2);
        Check.due("group 0 rings", Check.dial(x, 0, 40), Check.RINGBACK);
        Check.due("group 1 does not", Check.dial(x, 1, 41), Check.BUSY);
    }

    private static void refusals() {
        ExchangeDesk x = new ExchangeDesk();
        Check.refusesArgument("no such group", () -> x.group(-1, 0, 0));
        Check.refusesArgument("no such group", () -> x.group(4, 0, 0));
        Check.refusesArgument("no such group", () -> x.group(4, -1, 0));
        Check.refusesArgument("no such line", () -> x.group(0, 24, 0));
        Check.refusesArgument("no such line", () -> x.group(0, -2, 0));
        Check.due("member", x.group(0, 0, 0), 1);
        Check.refusesArgument("a member", () -> x.group(0, 0, 0));
        Check.refusesArgument("no such order", () -> x.group(0, -1, 4));
        Check.refusesArgument("no such order", () -> x.group(0, -1, -1));
        Check.due("the row has stayed; an order does not matter", x.group(0, 1, 4), 2);
        Check.due("an order does not matter", x.group(0, 2, -1), 3);
        Check.due("a line that is off the hook", x.up(9), Check.DIAL_TONE);
        Check.due("member", x.group(0, 9, 0), 4);
    }
}
