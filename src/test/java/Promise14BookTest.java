public final class Promise14BookTest {
    public static void main(String[] args) {
        entries();
        kept();
        refusals();
        Check.end();
    }

    private static void entries() {
        Check.sentence("Promise 14, caller, other one, beginning, units", Promise14BookTest::columns);
        Check.sentence("Promise 14, an entry for each as it ends", Promise14BookTest::asTheyEnd);
        Check.sentence("Promise 14, a call that was not answered has none", Promise14BookTest::notAnswered);
        Check.sentence("Promise 14, units: 1 and 1 for each full 60 ticks", Promise14BookTest::units);
        Check.sentence("Promise 14, the caller, whoever ends the call", Promise14BookTest::whoeverEndsIt);
    }

    private static void kept() {
        Check.sentence("Promise 14, 60 entries are kept", Promise14BookTest::sixtyEntries);
        Check.sentence("Promise 14, of 61 entries the first is not kept", Promise14BookTest::sixtyOneEntries);
        Check.sentence("Promise 14, the latest 60 are kept", Promise14BookTest::latestSixty);
    }

    private static void refusals() {
        Check.sentence("Promise 14, IndexOutOfBoundsException: an empty book", Promise14BookTest::emptyBook);
        Check.sentence("Promise 14, IndexOutOfBoundsException: too small or too large", Promise14BookTest::noSuchEntry);
        Check.sentence("Promise 14, IllegalArgumentException: no such what", Promise14BookTest::noSuchWhat);
    }

    private static void columns() {
        Desk x = new Desk();
        x.tick(5);
        x.dial(9, 13);
        x.tick(30);
        x.up(3);
        x.tick(60);
        x.down(3);
        Check.entry(x, 0, 9, 3, 35, 2);
    }

    private static void asTheyEnd() {
        Desk x = new Desk();
        x.tick(5);
        x.talk(9, 3);
        x.tick(30);
        x.talk(0, 22);
        x.tick(30);
        x.down(0);
        Check.entry(x, 0, 0, 22, 35, 1);
        x.tick(60);
        x.down(3);
        Check.entry(x, 1, 9, 3, 5, 3);
        Check.entry(x, 0, 0, 22, 35, 1);
    }

    private static void notAnswered() {
        Desk x = new Desk();
        x.dialAndLeave(0, 11);
        x.dial(0, 11);
        x.tick(300);
        Check.entries(x, 0);
        Check.refusesIndex("book(0, 0)", () -> x.book(0, 0));
    }

    private static void units() {
        int[] ticks = {1, 59, 60, 119, 120, 600};
        int[] units = {1, 1, 2, 2, 3, 11};
        Desk x = new Desk();
        x.talk(0, 1);
        x.down(0);
        x.down(1);
        Check.due("ended in its first tick", x.book(0, 3), 1);
        for (int i = 0; i < ticks.length; i++) {
            x.talk(0, 1);
            x.tick(ticks[i]);
            x.down(0);
            x.down(1);
            Check.due("after " + ticks[i] + " ticks", x.book(i + 1, 3), units[i]);
        }
    }

    private static void whoeverEndsIt() {
        for (int ends : new int[] {3, 9}) {
            Desk x = new Desk();
            x.talk(9, 3);
            x.down(ends);
            Check.entry(x, 0, 9, 3, 0, 1);
            x.down(12 - ends);
            x.talk(9, 3);
            x.park(ends, 0);
            Check.entry(x, 1, 9, 3, 0, 1);
            Desk y = new Desk();
            y.talk(9, 3);
            y.transfer(ends, 99);
            Check.entry(y, 0, 9, 3, 0, 1);
        }
    }

    /** Many short calls; of call i the caller is i % 6, the other one 6 + i % 7, the beginning i / 8. */
    private static Desk manyCalls(int calls) {
        Desk x = new Desk();
        for (int i = 0; i < calls; i++) {
            x.talk(i % 6, 6 + i % 7);
            x.down(i % 6);
            x.down(6 + i % 7);
            if (i % 8 == 7) {
                x.tick(1);
            }
        }
        return x;
    }

    private static void isCall(Desk x, int i) {
        Check.entry(x, i, i % 6, 6 + i % 7, i / 8, 1);
    }

    private static void sixtyEntries() {
        Desk x = manyCalls(60);
        isCall(x, 0);
        isCall(x, 1);
        isCall(x, 59);
        Check.refusesIndex("not yet", () -> x.book(60, 0));
    }

    private static void sixtyOneEntries() {
        Desk x = manyCalls(61);
        for (int what = 0; what < 4; what++) {
            int column = what;
            Check.refusesIndex("no longer kept", () -> x.book(0, column));
        }
        isCall(x, 1);
        isCall(x, 59);
        isCall(x, 60);
        Check.refusesIndex("not yet", () -> x.book(61, 0));
    }

    private static void latestSixty() {
        Desk x = manyCalls(70);
        for (int k = 0; k < 10; k++) {
            int dropped = k;
            Check.refusesIndex("entry " + k, () -> x.book(dropped, 0));
        }
        for (int k = 10; k < 70; k += 6) {
            Check.due("caller of entry " + k, x.book(k, 0), k % 6);
            Check.due("other one of entry " + k, x.book(k, 1), 6 + k % 7);
        }
        isCall(x, 10);
        isCall(x, 69);
        Check.refusesIndex("not yet", () -> x.book(70, 0));
    }

    private static void emptyBook() {
        Desk x = new Desk();
        Check.refusesIndex("book(0, 0)", () -> x.book(0, 0));
        x.talk(0, 1);
        Check.refusesIndex("a call that goes on", () -> x.book(0, 0));
        x.down(0);
        Check.entry(x, 0, 0, 1, 0, 1);
    }

    private static void noSuchEntry() {
        Desk x = manyCalls(1);
        for (int k : new int[] {-1, 1, 59, 60, -60, Integer.MIN_VALUE, Integer.MAX_VALUE}) {
            for (int w = 0; w < 4; w++) {
                int what = w;
                Check.refusesIndex("book(" + k + ", " + w + ")", () -> x.book(k, what));
            }
        }
    }

    private static void noSuchWhat() {
        Desk x = manyCalls(1);
        for (int what : new int[] {-1, 4, Integer.MIN_VALUE, Integer.MAX_VALUE}) {
            Check.refusesArgument("book(0, " + what + ")", () -> x.book(0, what));
            Check.refusesArgument("no such entry either", () -> x.book(1, what));
        }
    }
}
