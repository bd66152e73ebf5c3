public final class Promise13CountTest {
    public static void main(String[] args) {
        Check.sentence("Promise 13, 0: calls that were blocked", Promise13CountTest::blocked);
        Check.sentence("Promise 13, 0: busy is not blocked", Promise13CountTest::busyIsNotBlocked);
        Check.sentence("Promise 13, 1: entries the book has had", Promise13CountTest::entries);
        Check.sentence("Promise 13, 1: more than are kept", Promise13CountTest::moreThanAreKept);
        Check.sentence("Promise 13, 2: slots in use in all units", Promise13CountTest::slots);
        Check.sentence("Promise 13, 2: a unit whose slots are all in use", Promise13CountTest::fullUnit);
        Check.sentence("Promise 13, IllegalArgumentException: no such what", Promise13CountTest::noSuchWhat);
        Check.end();
    }

    private static void blocked() {
        Desk x = new Desk();
        x.keepSlots(0, 1);
        x.dial(0, 11);
        Check.blocked(x, 0);
        x.dial(2, 13);
        Check.blocked(x, 1);
        x.group(0, 3, 0);
        x.dial(6, 40);
        Check.blocked(x, 2);
        x.talk(7, 8);
        x.park(7, 0);
        x.dial(4, 60);
        Check.blocked(x, 3);
        x.down(0);
        Check.blocked(x, 3);
    }

    private static void busyIsNotBlocked() {
        Desk x = new Desk();
        x.dialAndLeave(5, 51);
        x.up(0);
        for (int number : new int[] {10, 11, 15, 40, 50, 51, 52, 60, 99}) {
            x.dialAndLeave(1, number);
        }
        x.dial(2, 13);
        x.tick(300);
        Check.blocked(x, 0);
    }

    private static void entries() {
        Desk x = new Desk();
        x.dialAndLeave(0, 11);
        Check.entries(x, 0);
        x.talk(0, 1);
        Check.entries(x, 0);
        x.park(0, 0);
        Check.entries(x, 1);
        x.dial(2, 60);
        Check.entries(x, 1);
        x.transfer(1, 13);
        Check.entries(x, 2);
        x.up(3);
        x.down(2);
        Check.entries(x, 3);
        x.down(3);
        Check.entries(x, 3);
    }

    private static void moreThanAreKept() {
        Desk x = new Desk();
        for (int i = 1; i <= 62; i++) {
            x.talk(0, 1);
            x.down(0);
            x.down(1);
            if (i >= 59) {
                Check.entries(x, i);
            }
        }
    }

    private static void slots() {
        Desk x = new Desk();
        x.dial(0, 11);
        Check.slotsInUse(x, 1);
        x.dial(2, 18);
        Check.slotsInUse(x, 3);
        x.dial(12, 28);
        Check.slotsInUse(x, 5);
        x.slot(3, 5, false);
        Check.slotsInUse(x, 5);
        x.up(8);
        Check.slotsInUse(x, 5);
        x.down(2);
        Check.slotsInUse(x, 3);
    }

    private static void fullUnit() {
        Desk x = new Desk();
        x.fill(0);
        Check.slotsInUse(x, 16);
        x.dial(14, 10 + 18);
        x.dial(15, 10 + 19);
        x.dial(16, 10 + 20);
        Check.slotsInUse(x, 22);
        x.down(0);
        Check.slotsInUse(x, 10);
    }

    private static void noSuchWhat() {
        Desk x = new Desk();
        for (int what : new int[] {-1, 3, Integer.MIN_VALUE, Integer.MAX_VALUE}) {
            Check.refusesArgument("count(" + what + ")", () -> x.count(what));
        }
    }
}
