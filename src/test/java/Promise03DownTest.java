public final class Promise03DownTest {
    public static void main(String[] args) {
        Check.sentence("Promise 3, the line is idle", Promise03DownTest::lineIsIdle);
        Check.sentence("Promise 3, a first digit is forgotten", Promise03DownTest::digitIsForgotten);
        Check.sentence("Promise 3, talking: the other one is busy", Promise03DownTest::otherOneIsBusy);
        Check.sentence("Promise 3, talking: the path is free", Promise03DownTest::pathIsFree);
        Check.sentence("Promise 3, ringback: what rings is idle", Promise03DownTest::whatRingsIsIdle);
        Check.sentence("Promise 3, ringback: the paths are free", Promise03DownTest::pathsOfRingingAreFree);
        Check.sentence("Promise 3, ringback: what rings for others goes on", Promise03DownTest::otherCallersRingOn);
        Check.sentence("Promise 3, parked: its place is free", Promise03DownTest::placeIsFree);
        Check.sentence("Promise 3, camped: it is over", Promise03DownTest::campIsOver);
        Check.sentence("Promise 3, IllegalArgumentException: no such line", Promise03DownTest::noSuchLine);
        Check.sentence("Promise 3, IllegalStateException: it is on the hook", Promise03DownTest::onTheHook);
        Check.end();
    }

    private static void lineIsIdle() {
        for (int state : State.offTheHook()) {
            Desk x = Desk.with(0, state);
            x.down(0);
            Check.state(x, 0, State.IDLE);
            Check.with(x, 0, -1);
            Check.path(x, 0, -1);
            Check.due("up again behind state " + state, x.up(0), State.DIAL_TONE);
        }
    }

    private static void digitIsForgotten() {
        Desk x = new Desk();
        x.up(4);
        x.digit(4, 1);
        x.down(4);
        x.up(4);
        Check.due("a new first digit", x.digit(4, 2), State.DIALLING);
        Check.due("its second one", x.digit(4, 3), State.RINGBACK);
        Check.with(x, 4, 13);
    }

    private static void otherOneIsBusy() {
        for (int leaves : new int[] {0, 12}) {
            int stays = 12 - leaves;
            Desk x = new Desk();
            x.talk(0, 12);
            x.down(leaves);
            Check.state(x, leaves, State.IDLE);
            Check.state(x, stays, State.BUSY);
            Check.with(x, stays, -1);
            Check.path(x, stays, -1);
            Check.entries(x, 1);
            x.down(stays);
            Check.state(x, stays, State.IDLE);
            Check.entries(x, 1);
        }
    }

    private static void pathIsFree() {
        Desk x = new Desk();
        x.talk(0, 12);
        x.talk(1, 13);
        x.down(12);
        Check.due("slot of unit 0", x.carries(0, 0), -1);
        Check.due("slot of unit 2", x.carries(2, 0), -1);
        Check.due("another path in unit 0", x.carries(0, 1), 1);
        Check.due("another path in unit 2", x.carries(2, 1), 1);
        Check.slotsInUse(x, 2);
    }

    private static void whatRingsIsIdle() {
        Desk x = new Desk();
        x.members(2, 3, 20, 7, 1);
        x.dial(0, 42);
        x.down(0);
        Check.states(x, State.IDLE, 0, 1, 7, 20);
        Check.with(x, 20, -1);
        Check.entries(x, 0);
    }

    private static void pathsOfRingingAreFree() {
        Desk x = new Desk();
        x.members(2, 3, 20, 7, 1);
        x.dial(0, 42);
        Check.slotsInUse(x, 5);
        x.down(0);
        Check.slotsInUse(x, 0);
        Check.path(x, 20, -1);
    }

    private static void otherCallersRingOn() {
        Desk x = new Desk();
        x.dial(0, 20);
        x.dial(3, 32);
        x.down(0);
        Check.state(x, 22, State.RINGING);
        Check.state(x, 3, State.RINGBACK);
        Check.slotsInUse(x, 2);
    }

    private static void placeIsFree() {
        Desk x = new Desk();
        x.talk(0, 1);
        x.park(0, 3);
        x.talk(6, 7);
        x.park(6, 2);
        x.down(1);
        Check.dials(x, 2, 63, State.BUSY);
        Check.blocked(x, 0);
        x.talk(4, 5);
        Check.due("parking there", x.park(4, 3), 5);
        Check.state(x, 7, State.PARKED);
        Check.dials(x, 8, 62, State.TALKING);
    }

    private static void campIsOver() {
        Desk x = new Desk();
        x.up(0);
        x.campAt(1, 0);
        x.down(1);
        Check.camper(x, 0, -1);
        x.down(0);
        Check.states(x, State.IDLE, 0, 1);
    }

    private static void noSuchLine() {
        Desk x = Desk.with(0, State.BUSY);
        Check.changesNothing(x, () -> {
            Check.refusesArgument("down(-1)", () -> x.down(-1));
            Check.refusesArgument("down(24)", () -> x.down(24));
            Check.refusesArgument("down(least)", () -> x.down(Integer.MIN_VALUE));
            Check.refusesArgument("down(greatest)", () -> x.down(Integer.MAX_VALUE));
        });
    }

    private static void onTheHook() {
        for (int state : State.onTheHook()) {
            Desk x = Desk.with(0, state);
            Check.changesNothing(x, () -> Check.refusesState("down in state " + state, () -> x.down(0)));
            Check.state(x, 0, state);
        }
    }
}
