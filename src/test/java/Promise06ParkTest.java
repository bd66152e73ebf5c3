public final class Promise06ParkTest {
    public static void main(String[] args) {
        Check.sentence("Promise 6, the other one is parked", Promise06ParkTest::otherOneIsParked);
        Check.sentence("Promise 6, the path is free, the line is busy", Promise06ParkTest::lineIsBusy);
        Check.sentence("Promise 6, places 0 to 3", Promise06ParkTest::everyPlace);
        Check.sentence("Promise 6, the call ends", Promise06ParkTest::callEnds);
        Check.sentence("Promise 6, nobody becomes idle", Promise06ParkTest::campsGoOn);
        Check.sentence("Promise 6, IllegalArgumentException: no such line", Promise06ParkTest::noSuchLine);
        Check.sentence("Promise 6, IllegalArgumentException: no such place", Promise06ParkTest::noSuchPlace);
        Check.sentence("Promise 6, IllegalStateException: it is not talking", Promise06ParkTest::notTalking);
        Check.sentence("Promise 6, IllegalStateException: the place is not free", Promise06ParkTest::notFree);
        Check.sentence("Promise 6, a place is free again", Promise06ParkTest::freeAgain);
        Check.end();
    }

    private static void otherOneIsParked() {
        for (int parks : new int[] {0, 8}) {
            int other = 8 - parks;
            Desk x = new Desk();
            x.talk(0, 8);
            Check.due("park", x.park(parks, 1), other);
            Check.state(x, other, State.PARKED);
            Check.with(x, other, 1);
            Check.path(x, other, -1);
        }
    }

    private static void lineIsBusy() {
        Desk x = new Desk();
        x.talk(0, 8);
        x.park(0, 1);
        Check.state(x, 0, State.BUSY);
        Check.with(x, 0, -1);
        Check.path(x, 0, -1);
        Check.slotsInUse(x, 0);
        Check.due("slot of unit 0", x.carries(0, 0), -1);
        Check.due("slot of unit 1", x.carries(1, 0), -1);
    }

    private static void everyPlace() {
        Desk x = new Desk();
        for (int p = 0; p < 4; p++) {
            x.talk(p, 12 + p);
            Check.due("park at " + p, x.park(p, p), 12 + p);
            Check.with(x, 12 + p, p);
        }
        x.talk(6, 7);
        for (int p = 0; p < 4; p++) {
            int place = p;
            Check.refusesState("all places are taken: " + p, () -> x.park(6, place));
        }
    }

    private static void callEnds() {
        Desk x = new Desk();
        x.talk(0, 8);
        x.tick(60);
        x.park(8, 3);
        Check.entries(x, 1);
        Check.entry(x, 0, 0, 8, 0, 2);
        x.tick(60);
        Check.units(x, 0, 2);
        Check.units(x, 8, 0);
    }

    private static void campsGoOn() {
        Desk x = new Desk();
        x.talk(0, 8);
        x.campAt(1, 0);
        x.campAt(2, 8);
        x.park(0, 0);
        Check.states(x, State.CAMPED, 1, 2);
        Check.camper(x, 0, 1);
        Check.camper(x, 8, 2);
        Check.state(x, 0, State.BUSY);
        Check.state(x, 8, State.PARKED);
    }

    private static void noSuchLine() {
        Desk x = Desk.with(0, State.TALKING);
        Check.changesNothing(x, () -> {
            Check.refusesArgument("park(-1, 0)", () -> x.park(-1, 0));
            Check.refusesArgument("park(24, 0)", () -> x.park(24, 0));
            Check.refusesArgument("park(least, 0)", () -> x.park(Integer.MIN_VALUE, 0));
            Check.refusesArgument("park(greatest, 0)", () -> x.park(Integer.MAX_VALUE, 0));
        });
    }

    private static void noSuchPlace() {
        for (int state : new int[] {State.TALKING, State.IDLE}) {
            Desk x = Desk.with(0, state);
            Check.changesNothing(x, () -> {
                Check.refusesArgument("park(0, -1)", () -> x.park(0, -1));
                Check.refusesArgument("park(0, 4)", () -> x.park(0, 4));
                Check.refusesArgument("park(0, least)", () -> x.park(0, Integer.MIN_VALUE));
                Check.refusesArgument("park(0, greatest)", () -> x.park(0, Integer.MAX_VALUE));
            });
        }
    }

    private static void notTalking() {
        for (int state : State.allBut(State.TALKING)) {
            Desk x = Desk.with(0, state);
            Check.changesNothing(x, () -> Check.refusesState("park in state " + state, () -> x.park(0, 1)));
        }
    }

    private static void notFree() {
        Desk x = new Desk();
        x.talk(0, 1);
        x.park(0, 0);
        x.talk(2, 3);
        Check.changesNothing(x, () -> {
            Check.refusesState("the caller parks", () -> x.park(2, 0));
            Check.refusesState("the other one parks", () -> x.park(3, 0));
        });
        Check.due("another place", x.park(3, 1), 2);
    }

    private static void freeAgain() {
        Desk x = new Desk();
        x.talk(0, 1);
        x.park(0, 0);
        x.dial(2, 60);
        Check.due("taken from there", x.park(1, 0), 2);
        x.down(2);
        x.talk(6, 7);
        Check.due("went on the hook", x.park(6, 0), 7);
        x.tick(600);
        x.talk(8, 9);
        Check.due("ran out", x.park(8, 0), 9);
    }
}
