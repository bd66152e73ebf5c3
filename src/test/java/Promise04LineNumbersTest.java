/** Promise 4 with the numbers 10 to 33, and the paths of such calls. */
public final class Promise04LineNumbersTest {
    public static void main(String[] args) {
        Check.sentence("Promise 4, 10 + l is the line l", Promise04LineNumbersTest::everyLine);
        Check.sentence("Promise 4, the numbers beside the lines' are none", Promise04LineNumbersTest::besideTheLines);
        Check.sentence("Promise 4, c has ringback, l is ringing", Promise04LineNumbersTest::rings);
        Check.sentence("Promise 4, itself: busy", Promise04LineNumbersTest::itself);
        Check.sentence("Promise 4, one with do not disturb: busy", Promise04LineNumbersTest::resting);
        Check.sentence("Promise 4, do not disturb and not idle: busy, not late",
                Promise04LineNumbersTest::restingAndNotIdle);
        Check.sentence("Promise 4, one that is not idle: busy, and late", Promise04LineNumbersTest::notIdle);
        Check.sentence("Promise 4, no path: busy, and blocked counts", Promise04LineNumbersTest::noPath);
        Check.sentence("Promise 4, blocked counts for a path alone", Promise04LineNumbersTest::busyIsNotBlocked);
        Check.sentence("Promise 4, line l is in unit l / 6", Promise04LineNumbersTest::units);
        Check.sentence("Promise 4, a path takes the lowest free slot of both units",
                Promise04LineNumbersTest::lowestOfBoth);
        Check.sentence("Promise 4, a path takes no slot that is out of order", Promise04LineNumbersTest::inOrder);
        Check.sentence("Promise 4, a path in one unit takes a slot once", Promise04LineNumbersTest::inOneUnit);
        Check.sentence("Promise 4, each unit has 8 slots", Promise04LineNumbersTest::fullUnit);
        Check.end();
    }

    private static void everyLine() {
        for (int l = 0; l < 24; l++) {
            int caller = (l + 1) % 24;
            Desk x = new Desk();
            Check.dials(x, caller, 10 + l, State.RINGBACK);
            Check.state(x, l, State.RINGING);
            Check.with(x, l, caller);
            Check.with(x, caller, l);
        }
    }

    private static void besideTheLines() {
        for (int number : new int[] {9, 34}) {
            Desk x = new Desk();
            Check.dials(x, 5, number, State.BUSY);
            Check.slotsInUse(x, 0);
            Check.blocked(x, 0);
        }
    }

    private static void rings() {
        Desk x = new Desk();
        Check.dials(x, 5, 33, State.RINGBACK);
        Check.state(x, 5, State.RINGBACK);
        Check.state(x, 23, State.RINGING);
        Check.path(x, 5, 0);
        Check.path(x, 23, 0);
        Check.slotsInUse(x, 2);
        Check.entries(x, 0);
        Check.blocked(x, 0);
    }

    private static void itself() {
        for (int l : new int[] {0, 11, 23}) {
            Desk x = new Desk();
            Check.dials(x, l, 10 + l, State.BUSY);
            Check.blocked(x, 0);
            Check.slotsInUse(x, 0);
            Check.refusesState("camp: it is not late for itself", () -> x.camp(l));
        }
    }

    private static void resting() {
        Desk x = new Desk();
        x.dialAndLeave(2, 51);
        Check.dials(x, 3, 12, State.BUSY);
        Check.state(x, 2, State.IDLE);
        Check.blocked(x, 0);
        x.up(2);
        Check.refusesState("camp: it was not late", () -> x.camp(3));
        x.digit(2, 5);
        x.digit(2, 2);
        x.down(2);
        x.down(3);
        Check.dials(x, 3, 12, State.RINGBACK);
    }

    private static void restingAndNotIdle() {
        Desk x = new Desk();
        x.dial(2, 51);
        Check.dials(x, 3, 12, State.BUSY);
        Check.refusesState("camp", () -> x.camp(3));
    }

    private static void notIdle() {
        for (int state : State.allBut(State.IDLE)) {
            Desk x = Desk.with(0, state);
            int with = x.line(0, 1);
            Check.dials(x, 6, 10, State.BUSY);
            Check.state(x, 0, state);
            Check.with(x, 0, with);
            Check.with(x, 6, -1);
            Check.blocked(x, 0);
            Check.due("late for a line in state " + state + ": camp", x.camp(6), 0);
        }
    }

    private static void noPath() {
        for (int unit : new int[] {0, 1}) {
            Desk x = new Desk();
            x.keepSlots(unit, 0);
            Check.dials(x, 0, 16, State.BUSY);
            Check.blocked(x, 1);
            Check.state(x, 6, State.IDLE);
            Check.slotsInUse(x, 0);
            x.up(6);
            Check.refusesState("camp: it was not late", () -> x.camp(0));
            x.down(6);
            Check.dials(x, 1, 16, State.BUSY);
            Check.blocked(x, 2);
        }
    }

    private static void busyIsNotBlocked() {
        Desk x = new Desk();
        x.dialAndLeave(1, 51);
        for (int unit = 0; unit < 4; unit++) {
            x.keepSlots(unit, 0);
        }
        Check.dials(x, 0, 10, State.BUSY);
        Check.dials(x, 2, 11, State.BUSY);
        Check.dials(x, 3, 10, State.BUSY);
        Check.blocked(x, 0);
        Check.due("late without a path", x.camp(3), 0);
    }

    private static void units() {
        for (int l = 0; l < 24; l++) {
            Desk x = new Desk();
            x.slot(l / 6, 0, false);
            x.dial(l, 10 + (l + 12) % 24);
            Check.path(x, l, 1);
            Check.due("carried in its unit", x.carries(l / 6, 1), Math.min(l, (l + 12) % 24));
        }
    }

    private static void lowestOfBoth() {
        Desk x = new Desk();
        x.dial(0, 11);
        x.dial(6, 17);
        x.dial(8, 19);
        x.dial(2, 20);
        Check.path(x, 0, 0);
        Check.path(x, 6, 0);
        Check.path(x, 8, 1);
        Check.path(x, 2, 2);
        Check.path(x, 10, 2);
        Check.dials(x, 3, 14, State.RINGBACK);
        Check.path(x, 3, 1);
        x.down(0);
        Check.dials(x, 12, 11, State.RINGBACK);
        Check.path(x, 12, 0);
    }

    private static void inOrder() {
        Desk x = new Desk();
        x.slot(0, 0, false);
        x.slot(1, 1, false);
        x.dial(0, 16);
        Check.path(x, 0, 2);
        Check.path(x, 6, 2);
        x.dial(1, 12);
        Check.path(x, 1, 1);
        Check.due("still out of order", x.carries(0, 0), -2);
        x.slot(0, 0, true);
        x.dial(7, 13);
        Check.path(x, 7, 0);
    }

    private static void inOneUnit() {
        Desk x = new Desk();
        x.keepSlots(3, 1);
        Check.dials(x, 18, 29, State.RINGBACK);
        Check.slotsInUse(x, 1);
        Check.due("carried", x.carries(3, 0), 18);
    }

    private static void fullUnit() {
        for (int unit = 0; unit < 4; unit++) {
            int first = unit * 6;
            Desk x = new Desk();
            x.fill(unit);
            Check.path(x, first + 2, 7);
            Check.blocked(x, 0);
            Check.dials(x, first + 3, 10 + first + 4, State.BUSY);
            Check.blocked(x, 1);
            Check.dials(x, (first + 14) % 24, 10 + first + 4, State.BUSY);
            Check.blocked(x, 2);
            x.down(first + 2);
            Check.dials(x, first + 2, 10 + first + 4, State.RINGBACK);
            Check.path(x, first + 4, 7);
            Check.blocked(x, 2);
        }
    }
}
