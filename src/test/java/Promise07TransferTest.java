public final class Promise07TransferTest {
    public static void main(String[] args) {
        Check.sentence("Promise 7, the line is busy, the other one calls", Promise07TransferTest::otherOneCalls);
        Check.sentence("Promise 7, either one transfers", Promise07TransferTest::eitherOne);
        Check.sentence("Promise 7, the path is free, then the other one calls", Promise07TransferTest::usesTheFreedPath);
        Check.sentence("Promise 7, whoever called then pays", Promise07TransferTest::whoCalledPays);
        Check.sentence("Promise 7, back to the line: busy and late", Promise07TransferTest::backToTheLine);
        Check.sentence("Promise 7, to the other one itself: busy", Promise07TransferTest::toItself);
        Check.sentence("Promise 7, as by digits: a group", Promise07TransferTest::toAGroup);
        Check.sentence("Promise 7, as by digits: do not disturb", Promise07TransferTest::toRest);
        Check.sentence("Promise 7, as by digits: parking", Promise07TransferTest::toAPlace);
        Check.sentence("Promise 7, as by digits: pick-up", Promise07TransferTest::toPickUp);
        Check.sentence("Promise 7, as by digits: no path", Promise07TransferTest::withoutAPath);
        Check.sentence("Promise 7, numbers 10 to 99", Promise07TransferTest::lowestAndHighestNumber);
        Check.sentence("Promise 7, IllegalArgumentException: no such line", Promise07TransferTest::noSuchLine);
        Check.sentence("Promise 7, IllegalArgumentException: no such number", Promise07TransferTest::noSuchNumber);
        Check.sentence("Promise 7, IllegalStateException: it is not talking", Promise07TransferTest::notTalking);
        Check.end();
    }

    private static void otherOneCalls() {
        Desk x = new Desk();
        x.talk(0, 8);
        Check.due("transfer", x.transfer(0, 24), State.RINGBACK);
        Check.state(x, 0, State.BUSY);
        Check.with(x, 0, -1);
        Check.path(x, 0, -1);
        Check.state(x, 8, State.RINGBACK);
        Check.with(x, 8, 14);
        Check.state(x, 14, State.RINGING);
        Check.with(x, 14, 8);
        Check.entries(x, 1);
    }

    private static void eitherOne() {
        Desk x = new Desk();
        x.talk(0, 8);
        Check.due("transfer", x.transfer(8, 24), State.RINGBACK);
        Check.state(x, 8, State.BUSY);
        Check.with(x, 0, 14);
        Check.with(x, 14, 0);
    }

    private static void usesTheFreedPath() {
        Desk x = new Desk();
        x.keepSlots(1, 1);
        x.talk(0, 8);
        Check.due("transfer", x.transfer(0, 17), State.RINGBACK);
        Check.path(x, 8, 0);
        Check.slotsInUse(x, 1);
        Check.due("freed", x.carries(0, 0), -1);
    }

    private static void whoCalledPays() {
        Desk x = new Desk();
        x.talk(0, 8);
        x.tick(61);
        x.transfer(0, 24);
        Check.entry(x, 0, 0, 8, 0, 2);
        x.up(14);
        x.tick(60);
        x.down(14);
        Check.entry(x, 1, 8, 14, 61, 2);
        Check.units(x, 0, 2);
        Check.units(x, 8, 2);
        Check.units(x, 14, 0);
    }

    private static void backToTheLine() {
        Desk x = new Desk();
        x.talk(0, 8);
        Check.due("transfer", x.transfer(0, 10), State.BUSY);
        Check.due("late for it: camp", x.camp(8), 0);
        x.down(0);
        Check.with(x, 0, 8);
        Check.state(x, 0, State.RINGING);
    }

    private static void toItself() {
        Desk x = new Desk();
        x.talk(0, 8);
        Check.due("transfer", x.transfer(0, 18), State.BUSY);
        Check.refusesState("not late", () -> x.camp(8));
        Check.refusesState("not late", () -> x.camp(0));
    }

    private static void toAGroup() {
        Desk x = new Desk();
        x.members(1, 0, 0, 8, 20);
        x.talk(0, 8);
        Check.due("transfer", x.transfer(0, 41), State.RINGBACK);
        Check.with(x, 8, 20);
    }

    private static void toRest() {
        Desk x = new Desk();
        x.talk(1, 2);
        Check.due("transfer", x.transfer(1, 51), State.BUSY);
        Check.rests(x, 2, 1);
        Check.rests(x, 1, 0);
    }

    private static void toAPlace() {
        Desk x = new Desk();
        x.talk(3, 4);
        x.park(3, 1);
        x.talk(12, 13);
        Check.due("transfer", x.transfer(12, 61), State.TALKING);
        Check.with(x, 13, 4);
        x.down(13);
        Check.entry(x, 2, 4, 13, 0, 1);
    }

    private static void toPickUp() {
        Desk x = new Desk();
        x.talk(0, 8);
        Check.due("nobody rings", x.transfer(0, 50), State.BUSY);
        x.talk(1, 9);
        x.dial(2, 17);
        Check.due("line 7 rings", x.transfer(1, 50), State.TALKING);
        Check.with(x, 9, 2);
        x.down(9);
        Check.due("the ringing line's caller pays", x.book(2, 0), 2);
    }

    private static void withoutAPath() {
        Desk x = new Desk();
        x.talk(0, 8);
        x.keepSlots(2, 0);
        Check.due("transfer", x.transfer(0, 24), State.BUSY);
        Check.blocked(x, 1);
        Check.state(x, 14, State.IDLE);
        Check.slotsInUse(x, 0);
    }

    private static void lowestAndHighestNumber() {
        Desk x = new Desk();
        x.talk(1, 8);
        Check.due("10", x.transfer(1, 10), State.RINGBACK);
        Check.with(x, 8, 0);
        x.up(0);
        Check.due("99", x.transfer(8, 99), State.BUSY);
        Check.states(x, State.BUSY, 0, 8);
    }

    private static void noSuchLine() {
        Desk x = Desk.with(0, State.TALKING);
        Check.changesNothing(x, () -> {
            Check.refusesArgument("transfer(-1, 12)", () -> x.transfer(-1, 12));
            Check.refusesArgument("transfer(24, 12)", () -> x.transfer(24, 12));
            Check.refusesArgument("transfer(least, 12)", () -> x.transfer(Integer.MIN_VALUE, 12));
            Check.refusesArgument("transfer(greatest, 12)", () -> x.transfer(Integer.MAX_VALUE, 12));
        });
    }

    private static void noSuchNumber() {
        for (int state : new int[] {State.TALKING, State.IDLE}) {
            Desk x = Desk.with(0, state);
            Check.changesNothing(x, () -> {
                Check.refusesArgument("transfer(0, 9)", () -> x.transfer(0, 9));
                Check.refusesArgument("transfer(0, 0)", () -> x.transfer(0, 0));
                Check.refusesArgument("transfer(0, 100)", () -> x.transfer(0, 100));
                Check.refusesArgument("transfer(0, -12)", () -> x.transfer(0, -12));
                Check.refusesArgument("transfer(0, least)", () -> x.transfer(0, Integer.MIN_VALUE));
                Check.refusesArgument("transfer(0, greatest)", () -> x.transfer(0, Integer.MAX_VALUE));
            });
        }
    }

    private static void notTalking() {
        for (int state : State.allBut(State.TALKING)) {
            Desk x = Desk.with(0, state);
            Check.changesNothing(x, () -> Check.refusesState("transfer in state " + state, () -> x.transfer(0, 12)));
        }
    }
}
