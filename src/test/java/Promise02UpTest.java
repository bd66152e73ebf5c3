public final class Promise02UpTest {
    public static void main(String[] args) {
        Check.sentence("Promise 2, an idle line gets dial tone", Promise02UpTest::idleLineGetsDialTone);
        Check.sentence("Promise 2, a ringing line answers", Promise02UpTest::ringingLineAnswers);
        Check.sentence("Promise 2, by the path that was taken when it began to ring", Promise02UpTest::keepsItsPath);
        Check.sentence("Promise 2, what else rang for the caller is idle", Promise02UpTest::othersStopRinging);
        Check.sentence("Promise 2, the paths of what else rang are free", Promise02UpTest::othersFreeTheirPaths);
        Check.sentence("Promise 2, what rings for another one goes on", Promise02UpTest::otherCallersRingOn);
        Check.sentence("Promise 2, who camps at what else rang calls it", Promise02UpTest::campsAtTheOthersCall);
        Check.sentence("Promise 2, IllegalArgumentException: no such line", Promise02UpTest::noSuchLine);
        Check.sentence("Promise 2, IllegalStateException: it is off the hook", Promise02UpTest::offTheHook);
        Check.end();
    }

    private static void idleLineGetsDialTone() {
        Desk x = new Desk();
        for (int l = 0; l < 24; l++) {
            Check.due("up(" + l + ")", x.up(l), State.DIAL_TONE);
        }
        for (int l = 0; l < 24; l++) {
            Check.state(x, l, State.DIAL_TONE);
            Check.with(x, l, -1);
            Check.path(x, l, -1);
        }
        Check.slotsInUse(x, 0);
    }

    private static void ringingLineAnswers() {
        Desk x = new Desk();
        x.dial(3, 24);
        Check.due("up(14)", x.up(14), State.TALKING);
        Check.state(x, 14, State.TALKING);
        Check.state(x, 3, State.TALKING);
        Check.with(x, 14, 3);
        Check.with(x, 3, 14);
        Check.slotsInUse(x, 2);
        Check.entries(x, 0);
    }

    private static void keepsItsPath() {
        Desk x = new Desk();
        x.dial(2, 23);
        x.dial(3, 24);
        x.down(2);
        Check.due("the lower slot is free again", x.carries(0, 0), -1);
        x.up(14);
        Check.path(x, 14, 1);
        Check.path(x, 3, 1);
        Check.due("carried in unit 0", x.carries(0, 1), 3);
        Check.due("carried in unit 2", x.carries(2, 1), 3);
    }

    private static void othersStopRinging() {
        for (int answers : new int[] {9, 1, 15}) {
            Desk x = new Desk();
            x.members(0, 3, 9, 1, 15);
            x.dial(0, 40);
            Check.due("up(" + answers + ")", x.up(answers), State.TALKING);
            Check.with(x, 0, answers);
            for (int other : new int[] {9, 1, 15}) {
                Check.state(x, other, other == answers ? State.TALKING : State.IDLE);
                Check.with(x, other, other == answers ? 0 : -1);
            }
        }
    }

    private static void othersFreeTheirPaths() {
        Desk x = new Desk();
        x.members(0, 3, 9, 1, 15);
        x.dial(0, 40);
        Check.slotsInUse(x, 5);
        x.up(1);
        Check.slotsInUse(x, 1);
        Check.path(x, 0, 1);
        Check.due("the path that is used", x.carries(0, 1), 0);
        Check.due("freed in unit 0", x.carries(0, 0), -1);
        Check.due("freed in unit 0", x.carries(0, 2), -1);
        Check.due("freed in unit 1", x.carries(1, 0), -1);
        Check.due("freed in unit 2", x.carries(2, 2), -1);
    }

    private static void otherCallersRingOn() {
        Desk x = new Desk();
        x.dial(2, 23);
        x.dial(3, 24);
        x.up(14);
        Check.state(x, 13, State.RINGING);
        Check.state(x, 2, State.RINGBACK);
        Check.with(x, 13, 2);
        Check.slotsInUse(x, 4);
    }

    private static void campsAtTheOthersCall() {
        Desk x = new Desk();
        x.members(0, 3, 6, 7);
        x.dial(0, 40);
        x.campAt(12, 6);
        x.campAt(13, 0);
        x.up(7);
        Check.with(x, 6, 12);
        Check.state(x, 13, State.CAMPED);
        Check.state(x, 0, State.TALKING);
    }

    private static void noSuchLine() {
        Desk x = new Desk();
        Check.changesNothing(x, () -> {
            Check.refusesArgument("up(-1)", () -> x.up(-1));
            Check.refusesArgument("up(24)", () -> x.up(24));
            Check.refusesArgument("up(least)", () -> x.up(Integer.MIN_VALUE));
            Check.refusesArgument("up(greatest)", () -> x.up(Integer.MAX_VALUE));
        });
    }

    private static void offTheHook() {
        for (int state : State.offTheHook()) {
            Desk x = Desk.with(0, state);
            Check.changesNothing(x, () -> Check.refusesState("up in state " + state, () -> x.up(0)));
            Check.state(x, 0, state);
        }
    }
}
