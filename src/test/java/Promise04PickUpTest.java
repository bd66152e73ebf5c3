/** Promise 4 with the number 50. */
public final class Promise04PickUpTest {
    public static void main(String[] args) {
        Check.sentence("Promise 4, pick-up: as if that line answered", Promise04PickUpTest::asIfAnswered);
        Check.sentence("Promise 4, pick-up: the caller pays", Promise04PickUpTest::callerPays);
        Check.sentence("Promise 4, pick-up: no such line: busy", Promise04PickUpTest::nobodyRings);
        Check.sentence("Promise 4, pick-up: of c's unit", Promise04PickUpTest::ofItsUnit);
        Check.sentence("Promise 4, pick-up: what began to ring first", Promise04PickUpTest::firstThatRang);
        Check.sentence("Promise 4, pick-up: of the same tick the lowest line", Promise04PickUpTest::lowestOfTheTick);
        Check.sentence("Promise 4, pick-up: all that rings for the caller is idle", Promise04PickUpTest::whatRingsIsIdle);
        Check.sentence("Promise 4, pick-up: all paths of the caller are free", Promise04PickUpTest::pathsAreFree);
        Check.sentence("Promise 4, pick-up: a new path", Promise04PickUpTest::newPath);
        Check.sentence("Promise 4, pick-up: first paths are free, then one is taken",
                Promise04PickUpTest::onlySlotIsTakenAnew);
        Check.sentence("Promise 4, pick-up: who camps calls when all is done", Promise04PickUpTest::campsWait);
        Check.end();
    }

    private static void asIfAnswered() {
        Desk x = new Desk();
        x.dial(0, 16);
        Check.dials(x, 7, 50, State.TALKING);
        Check.states(x, State.TALKING, 0, 7);
        Check.with(x, 0, 7);
        Check.with(x, 7, 0);
        Check.state(x, 6, State.IDLE);
        Check.with(x, 6, -1);
        Check.path(x, 6, -1);
        Check.entries(x, 0);
        Check.blocked(x, 0);
    }

    private static void callerPays() {
        Desk x = new Desk();
        x.dial(0, 16);
        x.tick(7);
        x.dial(7, 50);
        Check.units(x, 0, 1);
        x.tick(60);
        Check.units(x, 0, 2);
        Check.units(x, 7, 0);
        x.down(7);
        Check.entry(x, 0, 0, 7, 7, 2);
    }

    private static void nobodyRings() {
        Desk x = new Desk();
        Check.dials(x, 1, 50, State.BUSY);
        Check.blocked(x, 0);
        Check.refusesState("camp", () -> x.camp(1));
    }

    private static void ofItsUnit() {
        Desk x = new Desk();
        x.dial(0, 15);
        x.dial(1, 22);
        Check.dials(x, 6, 50, State.BUSY);
        Check.dials(x, 11, 50, State.BUSY);
        Check.states(x, State.RINGING, 5, 12);
        x.tick(1);
        x.dial(2, 17);
        x.dial(3, 20);
        x.down(6);
        x.down(11);
        Check.dials(x, 6, 50, State.TALKING);
        Check.with(x, 6, 2);
        Check.dials(x, 11, 50, State.TALKING);
        Check.with(x, 11, 3);
        Check.states(x, State.RINGING, 5, 12);
    }

    private static void firstThatRang() {
        Desk x = new Desk();
        x.dial(0, 20);
        x.tick(1);
        x.dial(1, 18);
        x.tick(1);
        x.dial(2, 19);
        Check.dials(x, 6, 50, State.TALKING);
        Check.with(x, 6, 0);
        Check.dials(x, 7, 50, State.TALKING);
        Check.with(x, 7, 1);
        Check.dials(x, 11, 50, State.TALKING);
        Check.with(x, 11, 2);
    }

    private static void lowestOfTheTick() {
        Desk x = new Desk();
        x.tick(3);
        x.dial(1, 21);
        x.dial(2, 16);
        x.dial(3, 18);
        Check.dials(x, 9, 50, State.TALKING);
        Check.with(x, 9, 2);
        Check.dials(x, 10, 50, State.TALKING);
        Check.with(x, 10, 3);
        Check.dials(x, 7, 50, State.TALKING);
        Check.with(x, 7, 1);
    }

    private static void whatRingsIsIdle() {
        Desk x = new Desk();
        x.members(0, 3, 12, 7, 18);
        x.dial(0, 40);
        x.dial(1, 24);
        Check.dials(x, 13, 50, State.TALKING);
        Check.with(x, 13, 0);
        Check.states(x, State.IDLE, 7, 12, 18);
        Check.state(x, 14, State.RINGING);
        Check.state(x, 1, State.RINGBACK);
    }

    private static void pathsAreFree() {
        Desk x = new Desk();
        x.members(0, 3, 12, 7, 18);
        x.dial(0, 40);
        Check.slotsInUse(x, 6);
        x.dial(13, 50);
        Check.slotsInUse(x, 2);
        Check.due("the new path", x.carries(0, 0), 0);
        Check.due("the new path", x.carries(2, 0), 0);
        Check.due("freed", x.carries(1, 1), -1);
        Check.due("freed", x.carries(3, 2), -1);
    }

    private static void newPath() {
        Desk x = new Desk();
        x.talk(1, 2);
        x.dial(0, 16);
        Check.path(x, 6, 1);
        x.down(1);
        x.dial(7, 50);
        Check.path(x, 7, 0);
        Check.path(x, 0, 0);
        Check.due("what was taken is free", x.carries(1, 1), -1);
        Check.due("the new path", x.carries(1, 0), 0);
        Check.slotsInUse(x, 2);
    }

    // The slot that is freed always serves the new path, so that none is missing at any time.
    private static void onlySlotIsTakenAnew() {
        Desk x = new Desk();
        x.keepSlots(0, 1);
        x.dial(1, 12);
        Check.dials(x, 3, 50, State.TALKING);
        Check.with(x, 3, 1);
        Check.path(x, 3, 0);
        Check.due("carried", x.carries(0, 0), 1);
        Check.slotsInUse(x, 1);
        Check.blocked(x, 0);
    }

    private static void campsWait() {
        Desk x = new Desk();
        x.keepSlots(1, 1);
        x.dial(0, 16);
        x.campAt(1, 6);
        Check.dials(x, 7, 50, State.TALKING);
        Check.with(x, 7, 0);
        Check.state(x, 6, State.IDLE);
        Check.state(x, 1, State.BUSY);
        Check.blocked(x, 1);
        Check.camper(x, 6, -1);
    }
}
