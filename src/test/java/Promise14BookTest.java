public final class Promise14BookTest {
    public static void main(String[] args) {
        entriesInTheirOrder();
        theLatestSixtyAreKept();
        refusals();
        Check.end();
    }

    private static void entriesInTheirOrder() {
        ExchangeDesk x = new ExchangeDesk();
        x.tick(5);
        Check.talk(x, 9, 3);
        x.tick(30);
        Check.talk(x, 0, 22);
        x.tick(30);
        x.down(0);
        Check.entry(x, 0, 0, 22, 35, 1);
        x.tick(60);
        x.down(3);
        Check.entry(x, 1, 9, 3, 5, 3);
        Check.entry(x, 0, 0, 22, 35, 1);
        Check.refusesIndex("a call that has not been", () -> x.book(2, 0));
    }

    private static void theLatestSixtyAreKept() {
        ExchangeDesk x = new ExchangeDesk();
        for (int i = 0; i < 63; i++) {
            int caller = i % 6;
            int other = 6 + i % 7;
            Check.talk(x, caller, other);
            x.tick(1);
            x.down(caller);
            x.down(other);
            if (i == 59) {
                Check.entry(x, 0, 0, 6, 0, 1);
            }
        }
        Check.due("entries", x.count(1), 63);
        for (int k = 3; k < 63; k++) {
            Check.entry(x, k, k % 6, 6 + k % 7, k, 1);
        }
        Check.refusesIndex("no longer kept", () -> x.book(0, 0));
        Check.refusesIndex("no longer kept", () -> x.book(2, 3));
        Check.refusesIndex("not yet", () -> x.book(63, 0));
    }

    private static void refusals() {
        ExchangeDesk x = new ExchangeDesk();
        Check.refusesIndex("an empty book", () -> x.book(0, 0));
        Check.refusesArgument("no such what in an empty book", () -> x.book(0, 4));
        Check.talk(x, 0, 1);
        Check.refusesIndex("a call that goes on", () -> x.book(0, 0));
        x.down(0);
        Check.entry(x, 0, 0, 1, 0, 1);
        Check.refusesArgument("no such what", () -> x.book(0, 4));
        Check.refusesArgument("no such what", () -> x.book(0, -1));
        Check.refusesArgument("no such what, no such entry", () -> x.book(1, 4));
        Check.refusesIndex("no such entry", () -> x.book(1, 0));
        Check.refusesIndex("no such entry", () -> x.book(-1, 0));
        Check.refusesIndex("no such entry", () -> x.book(Integer.MAX_VALUE, 0));
        Check.refusesIndex("no such entry", () -> x.book(Integer.MIN_VALUE, 0));
    }
}
