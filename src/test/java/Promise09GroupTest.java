public final class Promise09GroupTest {
    public static void main(String[] args) {
        Check.sentence("Promise 9, one more member: how many", Promise09GroupTest::rowGrows);
        Check.sentence("Promise 9, at the end of the row", Promise09GroupTest::atTheEnd);
        Check.sentence("Promise 9, every line can be a member", Promise09GroupTest::everyLine);
        Check.sentence("Promise 9, a line can be a member whatever it does", Promise09GroupTest::inEveryState);
        Check.sentence("Promise 9, line -1: the row is empty again", Promise09GroupTest::emptyAgain);
        Check.sentence("Promise 9, line -1: with another order", Promise09GroupTest::anotherOrder);
        Check.sentence("Promise 9, the order does not matter otherwise", Promise09GroupTest::orderDoesNotMatter);
        Check.sentence("Promise 9, groups are apart", Promise09GroupTest::groupsAreApart);
        Check.sentence("Promise 9, what rings goes on", Promise09GroupTest::whatRingsGoesOn);
        Check.sentence("Promise 9, IllegalArgumentException: no such group", Promise09GroupTest::noSuchGroup);
        Check.sentence("Promise 9, IllegalArgumentException: no such line", Promise09GroupTest::noSuchLine);
        Check.sentence("Promise 9, IllegalArgumentException: no such order", Promise09GroupTest::noSuchOrder);
        Check.sentence("Promise 9, IllegalArgumentException: it is a member", Promise09GroupTest::isAMember);
        Check.sentence("Promise 9, IllegalStateException: there are 6", Promise09GroupTest::thereAreSix);
        Check.end();
    }

    private static void rowGrows() {
        for (int g = 0; g < 4; g++) {
            Desk x = new Desk();
            for (int i = 0; i < 6; i++) {
                Check.due("members of group " + g, x.group(g, 23 - i, 0), i + 1);
            }
        }
    }

    private static void atTheEnd() {
        Desk x = new Desk();
        x.group(0, 9, 0);
        x.group(0, 3, 0);
        x.dial(0, 40);
        Check.with(x, 0, 9);
        x.dial(1, 40);
        Check.with(x, 1, 3);
    }

    private static void everyLine() {
        Desk x = new Desk();
        for (int l = 0; l < 24; l++) {
            Check.due("line " + l, x.group(l / 6, l, 0), l % 6 + 1);
        }
    }

    private static void inEveryState() {
        for (int state : State.allBut()) {
            Desk x = Desk.with(9, state);
            Check.changesNothing(x, () -> Check.due("member", x.group(0, 9, 0), 1));
        }
    }

    private static void emptyAgain() {
        Desk x = new Desk();
        x.members(3, 0, 1, 2, 3, 4, 5, 6);
        Check.due("empty", x.group(3, -1, 0), 0);
        Check.dials(x, 0, 43, State.BUSY);
        Check.due("one that was a member", x.group(3, 6, 0), 1);
        Check.due("empty", x.group(3, -1, 0), 0);
        Check.due("empty already", x.group(3, -1, 0), 0);
        for (int i = 1; i <= 6; i++) {
            Check.due("a new row", x.group(3, 6 + i, 0), i);
        }
    }

    private static void anotherOrder() {
        for (int order = 0; order < 4; order++) {
            Desk x = new Desk();
            x.group(0, 20, 0);
            x.group(0, -1, 3 - order);
            x.group(0, -1, order);
            x.group(0, 6, 0);
            x.group(0, 7, 0);
            x.group(0, 8, 0);
            x.dialAndLeave(0, 40);
            x.up(7);
            x.down(7);
            x.dial(0, 40);
            Check.with(x, 0, new int[] {6, 7, 8, 6}[order]);
            Check.state(x, 7, order == 1 || order == 3 ? State.RINGING : State.IDLE);
        }
    }

    private static void orderDoesNotMatter() {
        Desk x = new Desk();
        int[] orders = {3, 4, -1, Integer.MAX_VALUE, Integer.MIN_VALUE};
        for (int i = 0; i < orders.length; i++) {
            Check.due("order " + orders[i], x.group(0, 6 + i, orders[i]), i + 1);
        }
        for (int i = 0; i < 2; i++) {
            x.dial(0, 40);
            Check.with(x, 0, 6);
            Check.slotsInUse(x, 2);
            x.down(0);
        }
    }

    private static void groupsAreApart() {
        Desk x = new Desk();
        Check.due("group 0", x.group(0, 5, 0), 1);
        Check.due("group 1", x.group(1, 5, 0), 1);
        x.group(1, -1, 2);
        Check.dials(x, 1, 41, State.BUSY);
        Check.dials(x, 0, 40, State.RINGBACK);
    }

    private static void whatRingsGoesOn() {
        Desk x = new Desk();
        x.members(0, 3, 2, 3);
        x.dial(0, 40);
        x.group(0, -1, 0);
        Check.states(x, State.RINGING, 2, 3);
        Check.due("answer", x.up(3), State.TALKING);
        Check.state(x, 2, State.IDLE);
    }

    private static void noSuchGroup() {
        Desk x = new Desk();
        for (int g : new int[] {-1, 4, Integer.MIN_VALUE, Integer.MAX_VALUE}) {
            Check.refusesArgument("group(" + g + ", 0, 0)", () -> x.group(g, 0, 0));
            Check.refusesArgument("group(" + g + ", -1, 0)", () -> x.group(g, -1, 0));
        }
    }

    private static void noSuchLine() {
        Desk x = new Desk();
        for (int l : new int[] {-2, 24, Integer.MIN_VALUE, Integer.MAX_VALUE}) {
            Check.refusesArgument("group(0, " + l + ", 0)", () -> x.group(0, l, 0));
        }
        Check.due("the row has not grown", x.group(0, 0, 0), 1);
        x.members(0, 0, 1, 2, 3, 4, 5, 6);
        Check.refusesArgument("no such line and a full row", () -> x.group(0, 24, 0));
    }

    private static void noSuchOrder() {
        Desk x = new Desk();
        x.members(0, 1, 8, 9);
        for (int order : new int[] {-1, 4, Integer.MIN_VALUE, Integer.MAX_VALUE}) {
            Check.refusesArgument("group(0, -1, " + order + ")", () -> x.group(0, -1, order));
        }
        x.dialAndLeave(0, 40);
        x.dial(0, 40);
        Check.with(x, 0, 9);
        Check.due("the row has stayed", x.group(0, 10, 0), 3);
    }

    private static void isAMember() {
        Desk x = new Desk();
        x.members(0, 0, 9, 8, 7);
        for (int l = 7; l <= 9; l++) {
            int member = l;
            Check.refusesArgument("member " + l, () -> x.group(0, member, 0));
        }
        Check.due("the row has not grown", x.group(0, 6, 0), 4);
        x.members(0, 0, 1, 2, 3, 4, 5, 6);
        Check.refusesArgument("a member of a full row", () -> x.group(0, 6, 0));
    }

    private static void thereAreSix() {
        for (int order = 0; order < 4; order++) {
            Desk x = new Desk();
            x.members(0, order, 1, 2, 3, 4, 5, 6);
            Check.refusesState("the seventh", () -> x.group(0, 7, 0));
            Check.refusesState("the seventh", () -> x.group(0, 0, 0));
            for (int l = 1; l <= 6; l++) {
                x.up(l);
            }
            Check.dials(x, 0, 40, State.BUSY);
            Check.due("empty", x.group(0, -1, 0), 0);
            Check.due("not a member yet", x.group(0, 7, 0), 1);
        }
    }
}
