public final class Promise11CarriesTest {
    public static void main(String[] args) {
        ExchangeDesk x = new ExchangeDesk();
        Check.dial(x, 20, 13);
        Check.due("lower line in unit 0", x.carries(0, 0), 3);
        Check.due("lower line in unit 3", x.carries(3, 0), 3);
        Check.due("free in unit 1", x.carries(1, 0), -1);
        Check.dial(x, 1, 10);
        Check.due("line 0", x.carries(0, 1), 0);
        Check.due("once in one unit", x.count(2), 3);
        x.slot(3, 1, false);
        Check.due("out of order", x.carries(3, 1), -2);
        x.up(3);
        Check.due("talking", x.carries(3, 0), 3);
        x.down(3);
        Check.due("free", x.carries(3, 0), -1);
        Check.due("free", x.carries(0, 0), -1);
        Check.due("the last slot of the last unit", x.carries(3, 7), -1);
        Check.refusesArgument("no such unit", () -> x.carries(-1, 0));
        Check.refusesArgument("no such unit", () -> x.carries(4, 0));
        Check.refusesArgument("no such slot", () -> x.carries(0, -1));
        Check.refusesArgument("no such slot", () -> x.carries(0, 8));
        Check.end();
    }
}
