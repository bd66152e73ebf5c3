/** Promise 4 with do not disturb, parking places, and numbers of nothing. */
public final class Promise04OtherNumbersTest {
    public static void main(String[] args) {
        Check.sentence("Promise 4, 51: do not disturb is on", Promise04OtherNumbersTest::restOn);
        Check.sentence("Promise 4, 52: do not disturb is off", Promise04OtherNumbersTest::restOff);
        Check.sentence("Promise 4, do not disturb stays", Promise04OtherNumbersTest::restStays);
        Check.sentence("Promise 4, who has do not disturb can call", Promise04OtherNumbersTest::restingLineCalls);
        Check.sentence("Promise 4, 60 + p: what is parked there is taken", Promise04OtherNumbersTest::everyPlace);
        Check.sentence("Promise 4, parking: both talk by a new path", Promise04OtherNumbersTest::newPath);
        Check.sentence("Promise 4, parking: the parked one pays", Promise04OtherNumbersTest::parkedOnePays);
        Check.sentence("Promise 4, parking: no path: busy, blocked counts, it stays", Promise04OtherNumbersTest::noPath);
        Check.sentence("Promise 4, parking: nobody there: busy", Promise04OtherNumbersTest::nobodyThere);
        Check.sentence("Promise 4, any other number: busy", Promise04OtherNumbersTest::anyOtherNumber);
        Check.end();
    }

    private static void restOn() {
        Desk x = new Desk();
        Check.dials(x, 2, 51, State.BUSY);
        Check.rests(x, 2, 1);
        Check.rests(x, 1, 0);
        x.down(2);
        Check.dials(x, 2, 51, State.BUSY);
        Check.rests(x, 2, 1);
    }

    private static void restOff() {
        Desk x = new Desk();
        Check.dials(x, 2, 52, State.BUSY);
        Check.rests(x, 2, 0);
        x.down(2);
        x.dialAndLeave(2, 51);
        x.dialAndLeave(3, 51);
        Check.dials(x, 2, 52, State.BUSY);
        Check.rests(x, 2, 0);
        Check.rests(x, 3, 1);
    }

    private static void restStays() {
        Desk x = new Desk();
        x.dialAndLeave(2, 51);
        for (int number : new int[] {50, 53, 99, 12, 40, 60}) {
            x.dialAndLeave(2, number);
        }
        x.talk(2, 3);
        x.tick(100);
        x.down(2);
        Check.rests(x, 2, 1);
    }

    private static void restingLineCalls() {
        Desk x = new Desk();
        x.dialAndLeave(2, 51);
        Check.dials(x, 2, 14, State.RINGBACK);
        Check.due("answer", x.up(4), State.TALKING);
    }

    private static void everyPlace() {
        Desk x = new Desk();
        for (int p = 0; p < 4; p++) {
            x.talk(6 + p, 12 + p);
            x.park(6 + p, p);
        }
        for (int p = 3; p >= 0; p--) {
            Check.dials(x, 18 + p, 60 + p, State.TALKING);
            Check.with(x, 18 + p, 12 + p);
            Check.with(x, 12 + p, 18 + p);
            Check.state(x, 12 + p, State.TALKING);
            Check.dials(x, p, 60 + p, State.BUSY);
        }
    }

    private static void newPath() {
        Desk x = new Desk();
        x.talk(0, 8);
        x.park(0, 2);
        x.slot(2, 0, false);
        Check.dials(x, 14, 62, State.TALKING);
        Check.path(x, 8, 1);
        Check.path(x, 14, 1);
        Check.due("carried in unit 1", x.carries(1, 1), 8);
        Check.due("carried in unit 2", x.carries(2, 1), 8);
        Check.slotsInUse(x, 2);
    }

    private static void parkedOnePays() {
        Desk x = new Desk();
        x.talk(0, 8);
        x.tick(10);
        x.park(0, 2);
        x.tick(500);
        Check.units(x, 8, 0);
        x.dial(14, 62);
        Check.units(x, 8, 1);
        x.tick(120);
        Check.units(x, 8, 3);
        Check.units(x, 14, 0);
        Check.units(x, 0, 1);
        x.down(8);
        Check.entry(x, 0, 0, 8, 0, 1);
        Check.entry(x, 1, 8, 14, 510, 3);
    }

    private static void noPath() {
        for (int unit : new int[] {0, 1}) {
            Desk x = new Desk();
            x.talk(0, 8);
            x.park(0, 2);
            x.keepSlots(unit, 0);
            Check.dials(x, 1, 62, State.BUSY);
            Check.blocked(x, 1);
            Check.state(x, 8, State.PARKED);
            Check.with(x, 8, 2);
            Check.slotsInUse(x, 0);
            Check.refusesState("camp", () -> x.camp(1));
            x.slot(unit, 4, true);
            Check.dials(x, 2, 62, State.TALKING);
            Check.path(x, 8, 4);
            Check.blocked(x, 1);
        }
    }

    private static void nobodyThere() {
        Desk x = new Desk();
        x.talk(0, 8);
        x.park(0, 2);
        x.keepSlots(3, 0);
        for (int p : new int[] {0, 1, 3}) {
            Check.dials(x, 18 + p, 60 + p, State.BUSY);
        }
        Check.blocked(x, 0);
        Check.state(x, 8, State.PARKED);
    }

    private static void anyOtherNumber() {
        for (int number = 0; number <= 99; number++) {
            if (isOther(number)) {
                isOnlyBusy(number);
            }
        }
    }

    private static boolean isOther(int number) {
        boolean line = number >= 10 && number <= 33;
        boolean group = number >= 40 && number <= 43;
        boolean pickUpOrRest = number >= 50 && number <= 52;
        boolean place = number >= 60 && number <= 63;
        return !line && !group && !pickUpOrRest && !place;
    }

    private static void isOnlyBusy(int number) {
        Desk x = new Desk();
        for (int g = 0; g < 4; g++) {
            x.group(g, 20, 0);
        }
        x.dial(22, 14);
        x.talk(12, 13);
        x.park(12, 3);
        Check.dials(x, 3, number, State.BUSY);
        Check.with(x, 3, -1);
        Check.rests(x, 3, 0);
        Check.state(x, 4, State.RINGING);
        Check.state(x, 13, State.PARKED);
        Check.state(x, 20, State.IDLE);
        Check.slotsInUse(x, 2);
        Check.blocked(x, 0);
        Check.refusesState("camp after " + number, () -> x.camp(3));
    }
}
