public final class Promise05CampTest {
    public static void main(String[] args) {
        camps();
        refusals();
        calls();
        Check.end();
    }

    private static void camps() {
        Check.sentence("Promise 5, a busy line that was late is camped", Promise05CampTest::isCamped);
        Check.sentence("Promise 5, late after a transfer too", Promise05CampTest::lateAfterATransfer);
        Check.sentence("Promise 5, nothing else happened to it since", Promise05CampTest::nothingHappened);
        Check.sentence("Promise 5, a camped line stays so", Promise05CampTest::staysCamped);
        Check.sentence("Promise 5, two camp at one another", Promise05CampTest::atOneAnother);
        Check.sentence("Promise 5, a line camps at one that camps", Promise05CampTest::atACampedLine);
    }

    private static void refusals() {
        Check.sentence("Promise 5, IllegalArgumentException: no such line", Promise05CampTest::noSuchLine);
        Check.sentence("Promise 5, refused: the line is not busy", Promise05CampTest::notBusy);
        Check.sentence("Promise 5, refused: busy but never late", Promise05CampTest::busyButNotLate);
        Check.sentence("Promise 5, refused: it called again since", Promise05CampTest::calledAgain);
        Check.sentence("Promise 5, refused: something happened to it since", Promise05CampTest::somethingHappened);
        Check.sentence("Promise 5, refused: the other one is idle", Promise05CampTest::otherOneIsIdle);
        Check.sentence("Promise 5, refused: somebody camps there", Promise05CampTest::somebodyCamps);
    }

    private static void calls() {
        Check.sentence("Promise 5, becomes idle: the camped one calls it", Promise05CampTest::callsWhenIdle);
        Check.sentence("Promise 5, it calls from every state", Promise05CampTest::callsBehindEveryState);
        Check.sentence("Promise 5, becomes busy: nobody calls", Promise05CampTest::busyIsNotIdle);
        Check.sentence("Promise 5, until it becomes idle: nobody calls", Promise05CampTest::untilItIsIdle);
        Check.sentence("Promise 5, idle by whatever: its caller goes on the hook", Promise05CampTest::callerLeaves);
        Check.sentence("Promise 5, idle by whatever: another one answers", Promise05CampTest::anotherAnswers);
        Check.sentence("Promise 5, idle by whatever: a timer", Promise05CampTest::timerRunsOut);
        Check.sentence("Promise 5, idle by whatever: pick-up", Promise05CampTest::pickedUp);
        Check.sentence("Promise 5, idle by whatever: pick-up by a transfer", Promise05CampTest::pickedUpByTransfer);
        Check.sentence("Promise 5, as by digits: do not disturb", Promise05CampTest::callsARestingLine);
        Check.sentence("Promise 5, as by digits: no path", Promise05CampTest::callsWithoutAPath);
        Check.sentence("Promise 5, as soon as all is done: freed paths serve", Promise05CampTest::usesFreedPaths);
        Check.sentence("Promise 5, several become idle: the lowest first", Promise05CampTest::lowestFirst);
    }

    private static void isCamped() {
        Desk x = new Desk();
        x.talk(0, 1);
        Check.dials(x, 8, 10, State.BUSY);
        Check.due("camp", x.camp(8), 0);
        Check.state(x, 8, State.CAMPED);
        Check.with(x, 8, 0);
        Check.path(x, 8, -1);
        Check.camper(x, 0, 8);
        Check.camper(x, 1, -1);
        Check.camper(x, 8, -1);
        Check.slotsInUse(x, 1);
    }

    private static void lateAfterATransfer() {
        Desk x = new Desk();
        x.up(5);
        x.talk(0, 8);
        Check.due("transfer", x.transfer(0, 15), State.BUSY);
        Check.refusesState("the transferring line is not late", () -> x.camp(0));
        Check.due("camp", x.camp(8), 5);
    }

    private static void nothingHappened() {
        Desk x = new Desk();
        x.up(0);
        x.dial(1, 10);
        x.digit(1, 5);
        x.digit(1, 1);
        x.tick(1000);
        x.down(0);
        Check.refusesState("the other one is idle", () -> x.camp(1));
        x.up(0);
        Check.due("camp", x.camp(1), 0);
    }

    private static void staysCamped() {
        Desk x = new Desk();
        x.talk(0, 1);
        x.campAt(8, 0);
        x.digit(8, 1);
        x.digit(8, 2);
        x.tick(1000);
        Check.state(x, 8, State.CAMPED);
        Check.camper(x, 0, 8);
    }

    private static void atOneAnother() {
        Desk x = new Desk();
        x.up(2);
        x.dial(1, 12);
        x.digit(2, 1);
        x.digit(2, 1);
        Check.due("camp", x.camp(1), 2);
        Check.due("camp", x.camp(2), 1);
        x.down(2);
        Check.state(x, 2, State.RINGING);
        Check.state(x, 1, State.RINGBACK);
        Check.camper(x, 1, -1);
        Check.camper(x, 2, -1);
    }

    private static void atACampedLine() {
        Desk x = new Desk();
        x.up(0);
        x.campAt(1, 0);
        Check.dials(x, 2, 11, State.BUSY);
        Check.due("camp", x.camp(2), 1);
        x.down(0);
        Check.state(x, 1, State.RINGBACK);
        Check.state(x, 2, State.CAMPED);
        x.down(1);
        Check.with(x, 1, 2);
        Check.state(x, 0, State.IDLE);
    }

    private static void noSuchLine() {
        Desk x = new Desk();
        Check.changesNothing(x, () -> {
            Check.refusesArgument("camp(-1)", () -> x.camp(-1));
            Check.refusesArgument("camp(24)", () -> x.camp(24));
            Check.refusesArgument("camp(least)", () -> x.camp(Integer.MIN_VALUE));
            Check.refusesArgument("camp(greatest)", () -> x.camp(Integer.MAX_VALUE));
        });
    }

    private static void notBusy() {
        for (int state : State.allBut(State.BUSY)) {
            Desk x = Desk.with(0, state);
            Check.changesNothing(x, () -> Check.refusesState("camp in state " + state, () -> x.camp(0)));
        }
    }

    private static void busyButNotLate() {
        Desk x = new Desk();
        x.talk(0, 1);
        x.down(1);
        Check.refusesState("left by the other one", () -> x.camp(0));
        x.talk(2, 3);
        x.park(2, 0);
        Check.refusesState("it parked", () -> x.camp(2));
        x.dial(4, 15);
        x.tick(600);
        Check.refusesState("its ringback ran out", () -> x.camp(4));
        Check.state(x, 3, State.BUSY);
        Check.refusesState("its parking ran out", () -> x.camp(3));
    }

    private static void calledAgain() {
        Desk x = new Desk();
        x.up(0);
        x.dialAndLeave(1, 10);
        x.dial(1, 99);
        Check.refusesState("camp after another call", () -> x.camp(1));
        x.down(1);
        x.up(2);
        x.dialAndLeave(1, 12);
        x.dial(1, 10);
        Check.due("late for the one it called last", x.camp(1), 0);
    }

    private static void somethingHappened() {
        Desk x = new Desk();
        x.up(0);
        x.dialAndLeave(1, 10);
        Check.refusesState("it is idle", () -> x.camp(1));
        x.talk(1, 3);
        x.down(3);
        Check.state(x, 1, State.BUSY);
        Check.refusesState("it talked", () -> x.camp(1));
        x.down(1);
        x.dialAndLeave(1, 10);
        x.up(1);
        Check.refusesState("it has dial tone", () -> x.camp(1));
        x.down(1);
        x.talk(3, 1);
        x.down(3);
        Check.refusesState("it was called", () -> x.camp(1));
    }

    private static void otherOneIsIdle() {
        Desk x = new Desk();
        x.up(0);
        x.dial(3, 10);
        x.down(0);
        Check.refusesState("camp", () -> x.camp(3));
        Check.state(x, 3, State.BUSY);
        Check.camper(x, 0, -1);
        x.dial(5, 10);
        Check.due("it is not idle: camp", x.camp(3), 0);
    }

    private static void somebodyCamps() {
        Desk x = new Desk();
        x.up(0);
        x.dial(1, 10);
        x.dial(2, 10);
        x.camp(1);
        Check.refusesState("camp", () -> x.camp(2));
        Check.state(x, 2, State.BUSY);
        Check.camper(x, 0, 1);
        x.down(1);
        Check.due("nobody camps: camp", x.camp(2), 0);
        Check.camper(x, 0, 2);
    }

    private static void callsWhenIdle() {
        Desk x = new Desk();
        x.talk(0, 1);
        x.campAt(8, 0);
        x.tick(70);
        x.down(0);
        Check.state(x, 0, State.RINGING);
        Check.with(x, 0, 8);
        Check.path(x, 0, 0);
        Check.state(x, 8, State.RINGBACK);
        Check.with(x, 8, 0);
        Check.camper(x, 0, -1);
        x.up(0);
        x.tick(60);
        x.down(0);
        Check.entry(x, 1, 8, 0, 70, 2);
        Check.state(x, 0, State.IDLE);
        Check.state(x, 8, State.BUSY);
    }

    private static void callsBehindEveryState() {
        for (int state : State.offTheHook()) {
            Desk x = Desk.with(0, state);
            x.campAt(8, 0);
            x.down(0);
            Check.with(x, 0, 8);
            Check.state(x, 0, State.RINGING);
            Check.state(x, 8, State.RINGBACK);
        }
    }

    private static void busyIsNotIdle() {
        Desk x = new Desk();
        x.talk(0, 1);
        x.campAt(8, 0);
        x.down(1);
        Check.state(x, 0, State.BUSY);
        Check.state(x, 8, State.CAMPED);
        Check.camper(x, 0, 8);
    }

    private static void waits(Desk x, int state) {
        Check.state(x, 0, state);
        Check.camper(x, 0, 8);
        Check.state(x, 8, State.CAMPED);
        Check.with(x, 8, 0);
    }

    private static void untilItIsIdle() {
        Desk x = new Desk();
        x.up(0);
        x.campAt(8, 0);
        waits(x, State.DIAL_TONE);
        x.digit(0, 1);
        waits(x, State.DIALLING);
        x.digit(0, 1);
        waits(x, State.RINGBACK);
        x.up(1);
        waits(x, State.TALKING);
        x.park(1, 0);
        waits(x, State.PARKED);
        x.dial(2, 60);
        waits(x, State.TALKING);
        x.transfer(2, 13);
        waits(x, State.RINGBACK);
        x.up(3);
        x.transfer(0, 99);
        waits(x, State.BUSY);
        x.down(0);
        Check.with(x, 0, 8);
    }

    private static void callerLeaves() {
        Desk x = new Desk();
        x.dial(0, 16);
        x.campAt(12, 6);
        x.down(0);
        Check.with(x, 6, 12);
        Check.state(x, 12, State.RINGBACK);
        Check.state(x, 0, State.IDLE);
    }

    private static void anotherAnswers() {
        Desk x = new Desk();
        x.members(0, 3, 6, 7);
        x.dial(0, 40);
        x.campAt(12, 6);
        x.up(7);
        Check.with(x, 7, 0);
        Check.with(x, 6, 12);
        Check.state(x, 12, State.RINGBACK);
    }

    private static void timerRunsOut() {
        Desk x = new Desk();
        x.dial(0, 16);
        x.campAt(12, 6);
        x.tick(299);
        Check.state(x, 12, State.CAMPED);
        x.tick(1);
        Check.state(x, 0, State.BUSY);
        Check.with(x, 6, 12);
        x.tick(299);
        Check.state(x, 12, State.RINGBACK);
        x.tick(1);
        Check.state(x, 12, State.BUSY);
        Check.state(x, 6, State.IDLE);
    }

    private static void pickedUp() {
        Desk x = new Desk();
        x.dial(0, 16);
        x.campAt(12, 6);
        Check.dials(x, 7, 50, State.TALKING);
        Check.with(x, 7, 0);
        Check.with(x, 6, 12);
        Check.state(x, 12, State.RINGBACK);
    }

    private static void pickedUpByTransfer() {
        Desk x = new Desk();
        x.dial(0, 16);
        x.campAt(12, 6);
        x.talk(8, 18);
        Check.due("transfer", x.transfer(18, 50), State.TALKING);
        Check.with(x, 8, 0);
        Check.with(x, 6, 12);
        Check.state(x, 12, State.RINGBACK);
    }

    private static void callsARestingLine() {
        Desk x = new Desk();
        x.up(0);
        x.campAt(8, 0);
        x.digit(0, 5);
        x.digit(0, 1);
        Check.state(x, 8, State.CAMPED);
        x.down(0);
        Check.state(x, 0, State.IDLE);
        Check.state(x, 8, State.BUSY);
        Check.camper(x, 0, -1);
        Check.blocked(x, 0);
        x.up(0);
        Check.refusesState("it was not late", () -> x.camp(8));
    }

    private static void callsWithoutAPath() {
        Desk x = new Desk();
        x.up(1);
        x.campAt(9, 1);
        x.keepSlots(1, 0);
        x.down(1);
        Check.state(x, 1, State.IDLE);
        Check.state(x, 9, State.BUSY);
        Check.camper(x, 1, -1);
        Check.blocked(x, 1);
        x.up(1);
        Check.refusesState("it was not late", () -> x.camp(9));
    }

    private static void usesFreedPaths() {
        Desk x = new Desk();
        x.keepSlots(0, 1);
        x.talk(0, 1);
        x.campAt(2, 0);
        x.down(0);
        Check.with(x, 0, 2);
        Check.path(x, 0, 0);
        Check.blocked(x, 0);
    }

    private static void lowestFirst() {
        Desk x = new Desk();
        x.members(0, 3, 9, 8, 7);
        x.dial(6, 40);
        x.campAt(0, 9);
        x.campAt(1, 7);
        x.campAt(2, 6);
        x.campAt(3, 8);
        x.down(6);
        Check.path(x, 6, 0);
        Check.path(x, 7, 1);
        Check.path(x, 8, 2);
        Check.path(x, 9, 3);
        Check.with(x, 6, 2);
        Check.with(x, 7, 1);
        Check.with(x, 8, 3);
        Check.with(x, 9, 0);
    }
}
