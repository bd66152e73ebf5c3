public final class Promise12LineTest {
    public static void main(String[] args) {
        whomItIsWith();
        paths();
        units();
        Check.sentence("Promise 12, 4: do not disturb, 1 or 0", Promise12LineTest::rests);
        Check.sentence("Promise 12, 5: who camps at it", Promise12LineTest::campers);
        Check.sentence("Promise 12, IllegalArgumentException: no such line", Promise12LineTest::noSuchLine);
        Check.sentence("Promise 12, IllegalArgumentException: no such what", Promise12LineTest::noSuchWhat);
        Check.end();
    }

    private static void whomItIsWith() {
        Check.sentence("Promise 12, 0: its state", Promise12LineTest::states);
        Check.sentence("Promise 12, 1: whom it talks with", Promise12LineTest::talksWith);
        Check.sentence("Promise 12, 1: its caller when it rings", Promise12LineTest::itsCaller);
        Check.sentence("Promise 12, 1: the lowest line that rings for it", Promise12LineTest::lowestThatRings);
        Check.sentence("Promise 12, 1: the line it camps at", Promise12LineTest::campsAt);
        Check.sentence("Promise 12, 1: the place where it is parked", Promise12LineTest::place);
        Check.sentence("Promise 12, 1: -1 otherwise", Promise12LineTest::withNobody);
    }

    private static void paths() {
        Check.sentence("Promise 12, 2: the slot of its path", Promise12LineTest::slotOfItsPath);
        Check.sentence("Promise 12, 2: with ringback of the lowest line", Promise12LineTest::slotOfTheLowest);
        Check.sentence("Promise 12, 2: -1 without a path", Promise12LineTest::noPath);
    }

    private static void units() {
        Check.sentence("Promise 12, 3: 1 unit when it begins", Promise12LineTest::firstUnit);
        Check.sentence("Promise 12, 3: 1 for each full 60 ticks", Promise12LineTest::fullSixtyTicks);
        Check.sentence("Promise 12, 3: until it ends", Promise12LineTest::untilItEnds);
        Check.sentence("Promise 12, 3: the caller pays", Promise12LineTest::callerPays);
        Check.sentence("Promise 12, 3: of all calls ever", Promise12LineTest::allCalls);
    }

    private static void states() {
        for (int state : State.allBut()) {
            Check.state(Desk.with(0, state), 0, state);
            Check.state(Desk.with(22, state), 22, state);
        }
    }

    private static void talksWith() {
        Desk x = new Desk();
        x.talk(0, 23);
        Check.with(x, 0, 23);
        Check.with(x, 23, 0);
    }

    private static void itsCaller() {
        Desk x = new Desk();
        x.dial(0, 33);
        Check.with(x, 23, 0);
    }

    private static void lowestThatRings() {
        Desk x = new Desk();
        x.dial(0, 11);
        x.members(0, 3, 14, 9, 11);
        x.dial(6, 40);
        Check.with(x, 6, 9);
        for (int l : new int[] {9, 11, 14}) {
            Check.with(x, l, 6);
        }
        x.down(0);
        x.members(1, 3, 23, 0);
        x.dial(7, 41);
        Check.with(x, 7, 0);
    }

    private static void campsAt() {
        Desk x = new Desk();
        x.up(0);
        x.campAt(9, 0);
        Check.with(x, 9, 0);
        Check.with(x, 0, -1);
    }

    private static void place() {
        for (int p = 0; p < 4; p++) {
            Desk x = new Desk();
            x.talk(9, 12);
            x.park(9, p);
            Check.with(x, 12, p);
        }
    }

    private static void withNobody() {
        for (int state : new int[] {State.IDLE, State.DIAL_TONE, State.DIALLING, State.BUSY, State.HOWLER}) {
            Check.with(Desk.with(0, state), 0, -1);
        }
        for (int state : State.allBut(State.IDLE, State.RINGING)) {
            Desk x = Desk.with(0, state);
            x.down(0);
            Check.with(x, 0, -1);
        }
    }

    private static void slotOfItsPath() {
        Desk x = new Desk();
        x.dial(1, 12);
        x.dial(0, 33);
        Check.path(x, 0, 1);
        Check.path(x, 23, 1);
        x.up(23);
        Check.path(x, 0, 1);
        Check.path(x, 23, 1);
        Check.path(x, 1, 0);
    }

    private static void slotOfTheLowest() {
        Desk x = new Desk();
        x.members(0, 3, 14, 9, 11);
        x.dial(6, 40);
        Check.path(x, 6, 1);
        Check.path(x, 14, 0);
        Check.path(x, 9, 1);
        Check.path(x, 11, 2);
        x.up(11);
        Check.path(x, 6, 2);
        Check.path(x, 9, -1);
        Check.path(x, 14, -1);
    }

    private static void noPath() {
        for (int state : State.allBut(State.RINGBACK, State.RINGING, State.TALKING)) {
            Check.path(Desk.with(0, state), 0, -1);
        }
        Desk x = new Desk();
        x.talk(0, 1);
        x.campAt(2, 0);
        Check.path(x, 2, -1);
        x.down(1);
        Check.path(x, 0, -1);
        Check.path(x, 1, -1);
    }

    private static void firstUnit() {
        Desk x = new Desk();
        x.dial(0, 11);
        x.tick(120);
        Check.units(x, 0, 0);
        x.up(1);
        Check.units(x, 0, 1);
        x.down(1);
        Check.units(x, 0, 1);
    }

    private static void fullSixtyTicks() {
        Desk x = new Desk();
        x.tick(30);
        x.talk(0, 1);
        x.tick(59);
        Check.units(x, 0, 1);
        x.tick(1);
        Check.units(x, 0, 2);
        x.tick(59);
        Check.units(x, 0, 2);
        x.tick(1);
        Check.units(x, 0, 3);
        x.tick(1000);
        Check.units(x, 0, 19);
    }

    private static void untilItEnds() {
        Desk x = new Desk();
        x.talk(0, 1);
        x.tick(119);
        x.down(1);
        x.tick(500);
        Check.units(x, 0, 2);
        x.down(0);
        x.tick(500);
        Check.units(x, 0, 2);
    }

    private static void callerPays() {
        Desk x = new Desk();
        x.talk(9, 1);
        x.tick(60);
        Check.units(x, 9, 2);
        Check.units(x, 1, 0);
        x.down(9);
        Check.units(x, 9, 2);
        Check.units(x, 1, 0);
    }

    private static void allCalls() {
        Desk x = new Desk();
        x.talk(0, 1);
        x.tick(119);
        x.down(0);
        x.down(1);
        x.talk(1, 0);
        Check.units(x, 1, 1);
        Check.units(x, 0, 2);
        x.down(0);
        x.down(1);
        x.talk(0, 5);
        x.tick(60);
        Check.units(x, 0, 4);
        x.down(0);
        Check.units(x, 0, 4);
    }

    private static void rests() {
        Desk x = new Desk();
        Check.rests(x, 23, 0);
        x.dialAndLeave(23, 51);
        Check.rests(x, 23, 1);
        Check.rests(x, 22, 0);
        x.dialAndLeave(23, 52);
        Check.rests(x, 23, 0);
    }

    private static void campers() {
        Desk x = new Desk();
        x.up(9);
        Check.camper(x, 9, -1);
        x.campAt(0, 9);
        Check.camper(x, 9, 0);
        Check.camper(x, 0, -1);
        x.down(9);
        Check.camper(x, 9, -1);
    }

    private static void noSuchLine() {
        Desk x = new Desk();
        for (int l : new int[] {-1, 24, Integer.MIN_VALUE, Integer.MAX_VALUE}) {
            for (int w = 0; w < 6; w++) {
                int what = w;
                Check.refusesArgument("line(" + l + ", " + w + ")", () -> x.line(l, what));
            }
        }
    }

    private static void noSuchWhat() {
        Desk x = new Desk();
        for (int what : new int[] {-1, 6, Integer.MIN_VALUE, Integer.MAX_VALUE}) {
            Check.refusesArgument("line(0, " + what + ")", () -> x.line(0, what));
            Check.refusesArgument("line(23, " + what + ")", () -> x.line(23, what));
        }
    }
}
