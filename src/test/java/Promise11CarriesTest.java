public final class Promise11CarriesTest {
    public static void main(String[] args) {
        Check.sentence("Promise 11, the lower one of the two lines", Promise11CarriesTest::lowerLine);
        Check.sentence("Promise 11, the lower line may be 0", Promise11CarriesTest::lineZero);
        Check.sentence("Promise 11, -1 free", Promise11CarriesTest::free);
        Check.sentence("Promise 11, -2 out of order", Promise11CarriesTest::outOfOrder);
        Check.sentence("Promise 11, IllegalArgumentException: no such unit", Promise11CarriesTest::noSuchUnit);
        Check.sentence("Promise 11, IllegalArgumentException: no such slot", Promise11CarriesTest::noSuchSlot);
        Check.end();
    }

    private static void lowerLine() {
        Desk x = new Desk();
        x.dial(20, 13);
        Check.due("the called line's unit", x.carries(0, 0), 3);
        Check.due("the caller's unit", x.carries(3, 0), 3);
        x.up(3);
        Check.due("talking", x.carries(3, 0), 3);
        x.dial(4, 31);
        Check.due("the caller is lower", x.carries(3, 1), 4);
        x.dial(23, 32);
        Check.due("in one unit", x.carries(3, 2), 22);
        x.members(0, 3, 5, 7);
        x.dial(6, 40);
        Check.due("of each path", x.carries(1, 2), 5);
        Check.due("of each path", x.carries(1, 0), 6);
    }

    private static void lineZero() {
        Desk x = new Desk();
        x.dial(18, 10);
        Check.due("unit 0", x.carries(0, 0), 0);
        Check.due("unit 3", x.carries(3, 0), 0);
    }

    private static void free() {
        Desk x = new Desk();
        x.talk(20, 3);
        Check.due("another unit", x.carries(1, 0), -1);
        Check.due("another slot", x.carries(0, 1), -1);
        x.down(3);
        Check.due("free again", x.carries(3, 0), -1);
        Check.due("free again", x.carries(0, 0), -1);
        Check.due("the last one of all", x.carries(3, 7), -1);
    }

    private static void outOfOrder() {
        Desk x = new Desk();
        x.slot(3, 7, false);
        Check.due("out of order", x.carries(3, 7), -2);
        Check.due("another unit", x.carries(2, 7), -1);
    }

    private static void noSuchUnit() {
        Desk x = new Desk();
        for (int u : new int[] {-1, 4, Integer.MIN_VALUE, Integer.MAX_VALUE}) {
            Check.refusesArgument("carries(" + u + ", 0)", () -> x.carries(u, 0));
        }
    }

    private static void noSuchSlot() {
        Desk x = new Desk();
        for (int s : new int[] {-1, 8, Integer.MIN_VALUE, Integer.MAX_VALUE}) {
            Check.refusesArgument("carries(0, " + s + ")", () -> x.carries(0, s));
            Check.refusesArgument("carries(3, " + s + ")", () -> x.carries(3, s));
        }
    }
}
