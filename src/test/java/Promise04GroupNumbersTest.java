/** Promise 4 with the numbers 40 to 43: what each order takes. */
public final class Promise04GroupNumbersTest {
    public static void main(String[] args) {
        members();
        orders();
        nobody();
        Check.end();
    }

    private static void members() {
        Check.sentence("Promise 4, 40 + g is group g", Promise04GroupNumbersTest::everyGroup);
        Check.sentence("Promise 4, the numbers beside the groups' are none", Promise04GroupNumbersTest::besideTheGroups);
        Check.sentence("Promise 4, a group has up to 6 members", Promise04GroupNumbersTest::sixthMember);
        Check.sentence("Promise 4, members that can be taken are idle", Promise04GroupNumbersTest::idleOnes);
        Check.sentence("Promise 4, members that can be taken have no do not disturb",
                Promise04GroupNumbersTest::restingOnes);
        Check.sentence("Promise 4, members that can be taken are not c", Promise04GroupNumbersTest::notTheCaller);
        Check.sentence("Promise 4, members that can be taken have a path", Promise04GroupNumbersTest::withAPath);
    }

    private static void orders() {
        Check.sentence("Promise 4, order 0 takes the first one", Promise04GroupNumbersTest::firstOne);
        Check.sentence("Promise 4, order 1: at first from the first one on", Promise04GroupNumbersTest::atFirst);
        Check.sentence("Promise 4, order 1: the first one behind the last, around", Promise04GroupNumbersTest::around);
        Check.sentence("Promise 4, order 1: around to the one that was taken last",
                Promise04GroupNumbersTest::aroundToItself);
        Check.sentence("Promise 4, order 1: what the group took last", Promise04GroupNumbersTest::onlyWhatTheGroupTook);
        Check.sentence("Promise 4, order 1: a member at the row's end", Promise04GroupNumbersTest::aroundAGrownRow);
        Check.sentence("Promise 4, order 1: an emptied row begins anew", Promise04GroupNumbersTest::emptiedRow);
        Check.sentence("Promise 4, order 2: never in use, since -1", Promise04GroupNumbersTest::neverInUse);
        Check.sentence("Promise 4, order 2: idle longest", Promise04GroupNumbersTest::longestIdle);
        Check.sentence("Promise 4, order 2: of the same ones the first in the row",
                Promise04GroupNumbersTest::sameSince);
        Check.sentence("Promise 4, order 2: whatever made it idle", Promise04GroupNumbersTest::sinceAnyState);
        Check.sentence("Promise 4, order 3: all, by paths in the row's order", Promise04GroupNumbersTest::allOfThem);
        Check.sentence("Promise 4, order 3: as long as there is a path", Promise04GroupNumbersTest::allThatHaveAPath);
        Check.sentence("Promise 4, order 3: a member without a path is passed over",
                Promise04GroupNumbersTest::allBehindAMissingPath);
    }

    private static void nobody() {
        Check.sentence("Promise 4, an empty group: busy", Promise04GroupNumbersTest::emptyGroup);
        Check.sentence("Promise 4, none of a group: busy", Promise04GroupNumbersTest::noneOfThem);
        Check.sentence("Promise 4, none of a group: nobody is late", Promise04GroupNumbersTest::notLate);
        Check.sentence("Promise 4, a path alone was missing: blocked counts one",
                Promise04GroupNumbersTest::pathAloneIsMissing);
        Check.sentence("Promise 4, a path was missing of one member alone",
                Promise04GroupNumbersTest::pathOfOneMemberIsMissing);
        Check.sentence("Promise 4, one has a path: blocked does not count", Promise04GroupNumbersTest::oneHasAPath);
    }

    /** The caller rings this one alone, and goes on the hook again. */
    private static void rings(Desk x, int caller, int number, int want) {
        Check.dials(x, caller, number, State.RINGBACK);
        Check.with(x, caller, want);
        Check.state(x, want, State.RINGING);
        x.down(caller);
    }

    private static void everyGroup() {
        Desk x = new Desk();
        for (int g = 0; g < 4; g++) {
            x.group(g, 20 - g, 0);
        }
        for (int g = 0; g < 4; g++) {
            rings(x, 0, 40 + g, 20 - g);
        }
    }

    private static void besideTheGroups() {
        for (int number : new int[] {39, 44}) {
            Desk x = new Desk();
            for (int g = 0; g < 4; g++) {
                x.group(g, 20 - g, 0);
            }
            Check.dials(x, 0, number, State.BUSY);
            Check.slotsInUse(x, 0);
        }
    }

    private static void sixthMember() {
        for (int order = 0; order < 3; order++) {
            Desk x = new Desk();
            x.members(0, order, 1, 2, 3, 4, 5, 6);
            for (int l = 1; l < 6; l++) {
                x.up(l);
            }
            rings(x, 0, 40, 6);
        }
        Desk x = new Desk();
        x.members(0, 3, 1, 2, 3, 4, 5, 6);
        x.dial(0, 40);
        Check.states(x, State.RINGING, 1, 2, 3, 4, 5, 6);
        Check.slotsInUse(x, 7);
    }

    private static void idleOnes() {
        for (int order = 0; order < 4; order++) {
            for (int state : State.allBut(State.IDLE)) {
                Desk x = Desk.with(1, state);
                x.members(0, order, 1, 2);
                rings(x, 0, 40, 2);
                Check.state(x, 1, state);
            }
        }
    }

    private static void restingOnes() {
        for (int order = 0; order < 4; order++) {
            Desk x = new Desk();
            x.dialAndLeave(1, 51);
            x.members(0, order, 1, 2);
            Check.dials(x, 0, 40, State.RINGBACK);
            Check.with(x, 0, 2);
            Check.state(x, 1, State.IDLE);
            x.down(0);
            x.dialAndLeave(1, 52);
            x.dialAndLeave(2, 51);
            rings(x, 0, 40, 1);
        }
    }

    private static void notTheCaller() {
        for (int order = 0; order < 4; order++) {
            Desk x = new Desk();
            x.members(0, order, 1, 2);
            rings(x, 1, 40, 2);
            rings(x, 2, 40, 1);
        }
    }

    private static void withAPath() {
        for (int order = 0; order < 4; order++) {
            Desk x = new Desk();
            x.keepSlots(1, 0);
            x.members(0, order, 6, 12);
            Check.dials(x, 0, 40, State.RINGBACK);
            Check.with(x, 0, 12);
            Check.state(x, 6, State.IDLE);
        }
    }

    private static void firstOne() {
        Desk x = new Desk();
        x.members(0, 0, 3, 2, 9);
        rings(x, 0, 40, 3);
        rings(x, 0, 40, 3);
        x.up(3);
        rings(x, 0, 40, 2);
        x.down(3);
        rings(x, 0, 40, 3);
        Check.states(x, State.IDLE, 2, 9);
    }

    private static void atFirst() {
        Desk x = new Desk();
        x.members(1, 1, 8, 4, 6);
        rings(x, 0, 41, 8);
        Desk y = new Desk();
        y.members(1, 1, 8, 4, 6);
        y.up(8);
        rings(y, 0, 41, 4);
        y.down(8);
        rings(y, 0, 41, 6);
    }

    private static void around() {
        Desk x = new Desk();
        x.members(1, 1, 8, 4, 6);
        rings(x, 0, 41, 8);
        rings(x, 0, 41, 4);
        rings(x, 0, 41, 6);
        rings(x, 0, 41, 8);
        x.up(4);
        rings(x, 0, 41, 6);
        x.up(8);
        x.down(4);
        rings(x, 0, 41, 4);
    }

    private static void aroundToItself() {
        Desk x = new Desk();
        x.members(1, 1, 8, 4, 6);
        rings(x, 0, 41, 8);
        rings(x, 0, 41, 4);
        x.up(8);
        x.up(6);
        rings(x, 0, 41, 4);
        rings(x, 0, 41, 4);
        Desk y = new Desk();
        y.members(1, 1, 8);
        rings(y, 0, 41, 8);
        rings(y, 0, 41, 8);
    }

    private static void onlyWhatTheGroupTook() {
        Desk x = new Desk();
        x.members(1, 1, 8, 4, 6);
        x.members(2, 1, 8, 4, 6);
        rings(x, 0, 41, 8);
        x.dial(0, 14);
        x.down(0);
        rings(x, 0, 42, 8);
        rings(x, 0, 42, 4);
        rings(x, 0, 41, 4);
        x.up(8);
        x.up(4);
        x.up(6);
        x.dialAndLeave(0, 41);
        x.down(8);
        x.down(4);
        x.down(6);
        rings(x, 0, 41, 6);
    }

    private static void aroundAGrownRow() {
        Desk x = new Desk();
        x.members(1, 1, 8, 4);
        rings(x, 0, 41, 8);
        rings(x, 0, 41, 4);
        x.group(1, 20, 0);
        rings(x, 0, 41, 20);
        rings(x, 0, 41, 8);
    }

    private static void emptiedRow() {
        Desk x = new Desk();
        x.members(1, 1, 8, 4, 6);
        rings(x, 0, 41, 8);
        x.members(1, 1, 3, 4, 6);
        rings(x, 0, 41, 3);
    }

    private static void neverInUse() {
        Desk x = new Desk();
        x.up(5);
        x.down(5);
        x.members(2, 2, 5, 9);
        rings(x, 0, 42, 9);
        rings(x, 0, 42, 5);
    }

    private static void longestIdle() {
        Desk x = new Desk();
        x.members(2, 2, 5, 9, 7);
        for (int l : new int[] {9, 7, 5}) {
            x.tick(1);
            x.up(l);
            x.tick(1);
            x.down(l);
        }
        rings(x, 0, 42, 9);
        x.tick(1);
        rings(x, 0, 42, 7);
        x.tick(1);
        rings(x, 0, 42, 5);
        rings(x, 0, 42, 9);
        rings(x, 0, 42, 7);
    }

    private static void sameSince() {
        Desk x = new Desk();
        x.members(2, 2, 9, 5, 7);
        rings(x, 0, 42, 9);
        rings(x, 0, 42, 5);
        rings(x, 0, 42, 7);
        x.tick(4);
        rings(x, 0, 42, 9);
        Desk y = new Desk();
        y.members(2, 2, 7, 5, 9);
        for (int l : new int[] {9, 5, 7}) {
            y.up(l);
        }
        y.tick(3);
        for (int l : new int[] {9, 5, 7}) {
            y.down(l);
        }
        rings(y, 0, 42, 7);
    }

    private static void sinceAnyState() {
        for (int state : State.offTheHook()) {
            Desk x = Desk.with(1, state);
            x.members(0, 2, 1, 2);
            x.up(2);
            x.down(2);
            x.tick(1);
            x.down(1);
            rings(x, 0, 40, 2);
        }
        Desk x = Desk.with(1, State.RINGING);
        x.members(0, 2, 1, 2);
        x.up(2);
        x.down(2);
        x.tick(1);
        x.down(23);
        rings(x, 0, 40, 2);
    }

    private static void allOfThem() {
        Desk x = new Desk();
        x.members(3, 3, 14, 2, 1, 0, 3);
        x.up(3);
        x.dialAndLeave(2, 51);
        Check.dials(x, 0, 43, State.RINGBACK);
        Check.states(x, State.RINGING, 1, 14);
        Check.with(x, 1, 0);
        Check.with(x, 14, 0);
        Check.path(x, 14, 0);
        Check.path(x, 1, 1);
        Check.state(x, 2, State.IDLE);
        Check.state(x, 3, State.DIAL_TONE);
        Check.slotsInUse(x, 3);
        Check.blocked(x, 0);
    }

    private static void allThatHaveAPath() {
        Desk x = new Desk();
        x.members(0, 3, 1, 2, 3, 4, 5);
        x.keepSlots(0, 3);
        Check.dials(x, 0, 40, State.RINGBACK);
        Check.states(x, State.RINGING, 1, 2, 3);
        Check.states(x, State.IDLE, 4, 5);
        Check.path(x, 3, 2);
        Check.slotsInUse(x, 3);
        Check.blocked(x, 0);
    }

    private static void allBehindAMissingPath() {
        Desk x = new Desk();
        x.members(0, 3, 6, 7, 13);
        x.keepSlots(1, 1);
        Check.dials(x, 0, 40, State.RINGBACK);
        Check.states(x, State.RINGING, 6, 13);
        Check.state(x, 7, State.IDLE);
        Check.path(x, 13, 1);
        Check.blocked(x, 0);
    }

    private static void emptyGroup() {
        for (int order = 0; order < 4; order++) {
            Desk x = new Desk();
            x.members(0, order, 1, 2);
            x.group(0, -1, order);
            Check.dials(x, 0, 40, State.BUSY);
            Check.blocked(x, 0);
            Check.states(x, State.IDLE, 1, 2);
        }
    }

    private static void noneOfThem() {
        for (int order = 0; order < 4; order++) {
            Desk x = new Desk();
            x.members(0, order, 1, 2, 3);
            x.dialAndLeave(1, 51);
            x.up(2);
            x.keepSlots(0, 0);
            Check.dials(x, 3, 40, State.BUSY);
            Check.blocked(x, 0);
            Check.state(x, 1, State.IDLE);
        }
    }

    private static void notLate() {
        for (int order = 0; order < 4; order++) {
            Desk x = new Desk();
            x.members(0, order, 2);
            x.up(2);
            x.dial(3, 40);
            Check.refusesState("camp", () -> x.camp(3));
        }
    }

    private static void pathAloneIsMissing() {
        for (int order = 0; order < 4; order++) {
            Desk x = new Desk();
            x.members(0, order, 6, 8, 9);
            x.keepSlots(1, 0);
            Check.dials(x, 3, 40, State.BUSY);
            Check.blocked(x, 1);
            Check.states(x, State.IDLE, 6, 8, 9);
            Check.refusesState("camp", () -> x.camp(3));
        }
    }

    private static void pathOfOneMemberIsMissing() {
        for (int order = 0; order < 4; order++) {
            for (int free : new int[] {6, 8, 9}) {
                Desk x = new Desk();
                x.members(0, order, 6, 8, 9);
                for (int l : new int[] {6, 8, 9}) {
                    if (l != free) {
                        x.up(l);
                    }
                }
                x.keepSlots(1, 0);
                Check.dials(x, 3, 40, State.BUSY);
                Check.blocked(x, 1);
            }
        }
    }

    private static void oneHasAPath() {
        for (int order = 0; order < 4; order++) {
            Desk x = new Desk();
            x.members(0, order, 6, 8, 2);
            x.keepSlots(1, 0);
            rings(x, 3, 40, 2);
            Check.blocked(x, 0);
        }
    }
}
