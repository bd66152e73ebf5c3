/** Promise 4 with the number 50. */
public final class PickUpTest {
    public static void main(String[] args) {
        nobodyRings();
        takesANewPath();
        theFirstThatRang();
        allOfAGroupStopRinging();
        theOnlySlotIsTakenAnew();
        campsWaitForTheNewPath();
        Check.end();
    }

    private static void nobodyRings() {
        ExchangeDesk x = new ExchangeDesk();
        Check.dial(x, 0, 16);
        Check.due("no line rings in unit 0", Check.dial(x, 1, 50), Check.BUSY);
        Check.state(x, 6, Check.RINGING);
        Check.due("blocked", x.count(0), 0);
    }

    private static void takesANewPath() {
        ExchangeDesk x = new ExchangeDesk();
        Check.talk(x, 1, 2);
        Check.dial(x, 0, 16);
        Check.path(x, 6, 1);
        x.tick(7);
        x.down(1);
        Check.due("pick-up", Check.dial(x, 7, 50), Check.TALKING);
        Check.state(x, 0, Check.TALKING);
        Check.with(x, 0, 7);
        Check.with(x, 7, 0);
        Check.path(x, 7, 0);
        Check.path(x, 0, 0);
        Check.state(x, 6, Check.IDLE);
        Check.with(x, 6, -1);
        Check.due("freed", x.carries(1, 1), -1);
        Check.due("slots in use", x.count(2), 2);
        x.tick(60);
        Check.due("the caller pays", x.line(0, 3), 2);
        Check.due("the taker does not", x.line(7, 3), 0);
        x.down(7);
        Check.entry(x, 1, 0, 7, 7, 2);
    }

    private static void theFirstThatRang() {
        ExchangeDesk x = new ExchangeDesk();
        Check.dial(x, 0, 20);
        x.tick(1);
        Check.dial(x, 1, 18);
        Check.dial(x, 2, 17);
        Check.due("pick-up", Check.dial(x, 6, 50), Check.TALKING);
        Check.with(x, 6, 0);
        Check.due("pick-up", Check.dial(x, 9, 50), Check.TALKING);
        Check.with(x, 9, 2);
        Check.due("pick-up", Check.dial(x, 11, 50), Check.TALKING);
        Check.with(x, 11, 1);
    }

    private static void allOfAGroupStopRinging() {
        ExchangeDesk x = new ExchangeDesk();
        Check.members(x, 0, 3, 12, 7, 18);
        Check.dial(x, 0, 40);
        Check.due("pick-up", Check.dial(x, 13, 50), Check.TALKING);
        Check.state(x, 12, Check.IDLE);
        Check.state(x, 7, Check.IDLE);
        Check.state(x, 18, Check.IDLE);
        Check.path(x, 0, 0);
        Check.due("slots in use", x.count(2), 2);
    }

    // What the caller's paths leave free always has one for the taker, so "none" can not be reached.
    private static void theOnlySlotIsTakenAnew() {
        ExchangeDesk x = new ExchangeDesk();
        Check.keepSlots(x, 0, 1);
        Check.due("1 calls 2", Check.dial(x, 1, 12), Check.RINGBACK);
        Check.due("pick-up", Check.dial(x, 3, 50), Check.TALKING);
        Check.with(x, 3, 1);
        Check.path(x, 3, 0);
        Check.due("carried", x.carries(0, 0), 1);
        Check.due("blocked", x.count(0), 0);
    }

    private static void campsWaitForTheNewPath() {
        ExchangeDesk x = new ExchangeDesk();
        Check.keepSlots(x, 1, 1);
        Check.due("0 calls 6", Check.dial(x, 0, 16), Check.RINGBACK);
        Check.dial(x, 1, 16);
        x.camp(1);
        Check.due("7 picks up with the one slot", Check.dial(x, 7, 50), Check.TALKING);
        Check.with(x, 7, 0);
        Check.state(x, 6, Check.IDLE);
        Check.state(x, 1, Check.BUSY);
        Check.due("the camp ended without a path", x.count(0), 1);
        Check.due("nobody camps", x.line(6, 5), -1);
    }
}
