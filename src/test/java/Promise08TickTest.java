public final class Promise08TickTest {
    public static void main(String[] args) {
        Check.sentence("Promise 8, the time", Promise08TickTest::time);
        Check.sentence("Promise 8, n is 1 to 1,000", Promise08TickTest::fewestAndMostTicks);
        Check.sentence("Promise 8, IllegalArgumentException: n is not so", Promise08TickTest::noSuchN);
        Check.sentence("Promise 8, dial tone 100 ticks: howler", Promise08TickTest::dialTone);
        Check.sentence("Promise 8, dialling 100 ticks: howler", Promise08TickTest::dialling);
        Check.sentence("Promise 8, the first digit begins dialling", Promise08TickTest::firstDigitBegins);
        Check.sentence("Promise 8, ringback 300 ticks: busy", Promise08TickTest::ringback);
        Check.sentence("Promise 8, ringback 300 ticks: what rings is idle", Promise08TickTest::whatRings);
        Check.sentence("Promise 8, an answer ends ringback", Promise08TickTest::answerInTime);
        Check.sentence("Promise 8, parked 600 ticks: busy", Promise08TickTest::parked);
        Check.sentence("Promise 8, parked 600 ticks: the place is free", Promise08TickTest::placeIsFree);
        Check.sentence("Promise 8, taken from parking in time", Promise08TickTest::takenInTime);
        Check.sentence("Promise 8, other states have no timer", Promise08TickTest::statesWithoutTimers);
        Check.sentence("Promise 8, a state's time begins with it", Promise08TickTest::beginsWithTheState);
        Check.sentence("Promise 8, one tick after the other", Promise08TickTest::oneAfterTheOther);
        Check.sentence("Promise 8, a line is idle since its own tick", Promise08TickTest::idleSinceItsTick);
        Check.sentence("Promise 8, timers by lines 0, 1, ..", Promise08TickTest::byLines);
        Check.end();
    }

    private static void time() {
        Desk x = new Desk();
        Check.due("tick(1)", x.tick(1), 1);
        Check.due("tick(7)", x.tick(7), 8);
        Check.due("tick(92)", x.tick(92), 100);
    }

    private static void fewestAndMostTicks() {
        Desk x = new Desk();
        Check.due("tick(1)", x.tick(1), 1);
        Check.due("tick(1000)", x.tick(1000), 1001);
        Check.due("tick(999)", x.tick(999), 2000);
        for (int i = 0; i < 500; i++) {
            x.tick(1000);
        }
        Check.due("the time of many ticks", x.tick(1), 502001);
    }

    private static void noSuchN() {
        Desk x = Desk.with(0, State.DIAL_TONE);
        x.tick(99);
        Check.changesNothing(x, () -> {
            Check.refusesArgument("tick(0)", () -> x.tick(0));
            Check.refusesArgument("tick(-1)", () -> x.tick(-1));
            Check.refusesArgument("tick(1001)", () -> x.tick(1001));
            Check.refusesArgument("tick(least)", () -> x.tick(Integer.MIN_VALUE));
            Check.refusesArgument("tick(greatest)", () -> x.tick(Integer.MAX_VALUE));
        });
        Check.due("the time has not gone", x.tick(1), 100);
    }

    private static void dialTone() {
        Desk x = new Desk();
        x.tick(7);
        x.up(0);
        x.tick(99);
        Check.state(x, 0, State.DIAL_TONE);
        x.tick(1);
        Check.state(x, 0, State.HOWLER);
        Check.with(x, 0, -1);
        Check.path(x, 0, -1);
    }

    private static void dialling() {
        Desk x = new Desk();
        x.tick(7);
        x.up(0);
        x.digit(0, 1);
        x.tick(99);
        Check.state(x, 0, State.DIALLING);
        x.tick(1);
        Check.state(x, 0, State.HOWLER);
        Check.due("the second digit is late", x.digit(0, 1), State.HOWLER);
        Check.state(x, 1, State.IDLE);
    }

    private static void firstDigitBegins() {
        Desk x = new Desk();
        x.up(0);
        x.tick(99);
        x.digit(0, 1);
        x.tick(99);
        Check.state(x, 0, State.DIALLING);
        Check.due("the second digit in time", x.digit(0, 1), State.RINGBACK);
        Desk y = new Desk();
        y.up(0);
        y.tick(99);
        y.digit(0, 1);
        y.tick(100);
        Check.state(y, 0, State.HOWLER);
    }

    private static void ringback() {
        Desk x = new Desk();
        x.tick(3);
        x.up(0);
        x.digit(0, 1);
        x.tick(50);
        x.digit(0, 1);
        x.tick(299);
        Check.state(x, 0, State.RINGBACK);
        Check.state(x, 1, State.RINGING);
        x.tick(1);
        Check.state(x, 0, State.BUSY);
        Check.with(x, 0, -1);
        Check.path(x, 0, -1);
        Check.entries(x, 0);
        Check.units(x, 0, 0);
    }

    private static void whatRings() {
        Desk x = new Desk();
        x.members(0, 3, 1, 7, 13);
        x.dial(0, 40);
        x.tick(1);
        x.dial(2, 18);
        x.tick(298);
        Check.states(x, State.RINGING, 1, 7, 13, 8);
        x.tick(1);
        Check.states(x, State.IDLE, 1, 7, 13);
        Check.state(x, 8, State.RINGING);
        Check.slotsInUse(x, 2);
        x.tick(1);
        Check.state(x, 8, State.IDLE);
        Check.slotsInUse(x, 0);
    }

    private static void answerInTime() {
        Desk x = new Desk();
        x.dial(0, 11);
        x.tick(299);
        Check.due("answer", x.up(1), State.TALKING);
        x.tick(1);
        Check.states(x, State.TALKING, 0, 1);
    }

    private static void parked() {
        Desk x = new Desk();
        x.talk(0, 1);
        x.tick(40);
        x.park(0, 0);
        x.tick(599);
        Check.state(x, 1, State.PARKED);
        x.tick(1);
        Check.state(x, 1, State.BUSY);
        Check.with(x, 1, -1);
        Check.entries(x, 1);
    }

    private static void placeIsFree() {
        Desk x = new Desk();
        x.talk(0, 1);
        x.park(0, 0);
        x.talk(6, 7);
        x.tick(1);
        x.park(6, 2);
        x.tick(599);
        Check.dials(x, 2, 60, State.BUSY);
        Check.state(x, 7, State.PARKED);
        x.talk(3, 4);
        Check.due("park there", x.park(3, 0), 4);
        Check.dials(x, 8, 62, State.TALKING);
    }

    private static void takenInTime() {
        Desk x = new Desk();
        x.talk(0, 1);
        x.park(0, 0);
        x.tick(599);
        Check.dials(x, 2, 60, State.TALKING);
        x.tick(1);
        Check.states(x, State.TALKING, 1, 2);
    }

    private static void statesWithoutTimers() {
        Desk x = new Desk();
        x.talk(0, 1);
        x.campAt(2, 0);
        x.dial(3, 99);
        x.up(4);
        x.tick(1000);
        x.tick(1000);
        Check.states(x, State.TALKING, 0, 1);
        Check.state(x, 2, State.CAMPED);
        Check.state(x, 3, State.BUSY);
        Check.state(x, 4, State.HOWLER);
        Check.state(x, 5, State.IDLE);
    }

    private static void beginsWithTheState() {
        Desk x = new Desk();
        x.up(0);
        x.tick(60);
        x.down(0);
        x.up(0);
        x.tick(60);
        Check.state(x, 0, State.DIAL_TONE);
        x.digit(0, 1);
        x.digit(0, 6);
        x.tick(200);
        x.down(0);
        x.dial(0, 16);
        x.tick(200);
        Check.state(x, 0, State.RINGBACK);
        x.tick(100);
        Check.state(x, 0, State.BUSY);
    }

    /** A ringing line at which one camps: its ringback begins and ends within one long tick(). */
    private static Desk chainOfTimers() {
        Desk x = new Desk();
        x.dial(0, 11);
        x.campAt(2, 1);
        x.campAt(6, 0);
        x.up(3);
        x.talk(8, 9);
        x.park(8, 1);
        return x;
    }

    private static void oneAfterTheOther() {
        Desk atOnce = chainOfTimers();
        Desk bySteps = chainOfTimers();
        atOnce.tick(700);
        for (int i = 0; i < 100; i++) {
            bySteps.tick(7);
        }
        Check.holds("one long tick and many short ones show the same",
                new View(atOnce).toString().equals(new View(bySteps).toString()));
        Check.states(atOnce, State.BUSY, 0, 2, 9);
        Check.state(atOnce, 1, State.IDLE);
        Check.state(atOnce, 3, State.HOWLER);
        Check.state(atOnce, 6, State.CAMPED);
    }

    private static void idleSinceItsTick() {
        Desk x = new Desk();
        int[] ringing = {9, 7, 8};
        for (int i = 0; i < ringing.length; i++) {
            x.dial(i, 10 + ringing[i]);
            x.tick(1);
        }
        x.tick(1000);
        x.members(0, 2, 8, 7, 9);
        for (int i = 0; i < ringing.length; i++) {
            x.dial(12 + i, 40);
            Check.with(x, 12 + i, ringing[i]);
        }
    }

    // Line 0's timer is done, with the call of who camps, before line 1's timer is looked at.
    private static void byLines() {
        Desk x = new Desk();
        x.dial(2, 17);
        x.dial(0, 19);
        x.dial(1, 18);
        x.campAt(10, 8);
        x.campAt(11, 9);
        x.down(2);
        x.tick(300);
        Check.with(x, 9, 11);
        Check.path(x, 9, 0);
        Check.with(x, 8, 10);
        Check.path(x, 8, 1);
    }
}
