public final class Promise01NewObjectTest {
    public static void main(String[] args) {
        Check.sentence("Promise 1, all lines idle", Promise01NewObjectTest::linesAreIdle);
        Check.sentence("Promise 1, nothing is counted", Promise01NewObjectTest::nothingIsCounted);
        Check.sentence("Promise 1, no members in groups", Promise01NewObjectTest::groupsAreEmpty);
        Check.sentence("Promise 1, groups have order 0", Promise01NewObjectTest::orderIsTheFirst);
        Check.sentence("Promise 1, all slots free", Promise01NewObjectTest::slotsAreFree);
        Check.sentence("Promise 1, all slots in order", Promise01NewObjectTest::slotsAreInOrder);
        Check.sentence("Promise 1, nobody is parked", Promise01NewObjectTest::placesAreFree);
        Check.sentence("Promise 1, time is 0 at first", Promise01NewObjectTest::timeIsZero);
        Check.sentence("Promise 1, the book is empty", Promise01NewObjectTest::bookIsEmpty);
        Check.sentence("Promise 1, another object is new too", Promise01NewObjectTest::objectsAreApart);
        Check.end();
    }

    private static void linesAreIdle() {
        Desk x = new Desk();
        for (int l = 0; l < 24; l++) {
            Check.state(x, l, State.IDLE);
            Check.with(x, l, -1);
            Check.path(x, l, -1);
            Check.units(x, l, 0);
            Check.rests(x, l, 0);
            Check.camper(x, l, -1);
        }
    }

    private static void nothingIsCounted() {
        Desk x = new Desk();
        Check.blocked(x, 0);
        Check.entries(x, 0);
        Check.slotsInUse(x, 0);
    }

    private static void groupsAreEmpty() {
        for (int g = 0; g < 4; g++) {
            Desk x = new Desk();
            Check.dials(x, 0, 40 + g, State.BUSY);
            Check.blocked(x, 0);
            Check.due("the first member", x.group(g, 20, 0), 1);
        }
    }

    // Order 1 and order 2 would let 8 ring the second time, order 3 both at once.
    private static void orderIsTheFirst() {
        for (int g = 0; g < 4; g++) {
            Desk x = new Desk();
            x.group(g, 9, 3);
            x.group(g, 8, 3);
            for (int i = 0; i < 2; i++) {
                Check.dials(x, 0, 40 + g, State.RINGBACK);
                Check.state(x, 9, State.RINGING);
                Check.state(x, 8, State.IDLE);
                x.down(0);
            }
        }
    }

    private static void slotsAreFree() {
        Desk x = new Desk();
        for (int u = 0; u < 4; u++) {
            for (int s = 0; s < 8; s++) {
                Check.due("slot " + s + " of unit " + u, x.carries(u, s), -1);
            }
        }
    }

    private static void slotsAreInOrder() {
        for (int u = 0; u < 4; u++) {
            Desk x = new Desk();
            x.fill(u);
            for (int s = 0; s < 8; s++) {
                Check.holds("slot " + s + " of unit " + u + " in use", x.carries(u, s) >= 0);
            }
        }
    }

    private static void placesAreFree() {
        Desk x = new Desk();
        for (int p = 0; p < 4; p++) {
            Check.dials(x, p, 60 + p, State.BUSY);
        }
        for (int p = 0; p < 4; p++) {
            x.talk(6 + p, 12 + p);
            Check.due("place " + p, x.park(6 + p, p), 12 + p);
        }
    }

    private static void timeIsZero() {
        Check.due("the first tick", new Desk().tick(1), 1);
        Desk x = new Desk();
        x.talk(0, 1);
        x.down(0);
        Check.due("when the first call began", x.book(0, 2), 0);
    }

    private static void bookIsEmpty() {
        Desk x = new Desk();
        for (int what = 0; what < 4; what++) {
            int column = what;
            Check.refusesIndex("book(0, " + what + ")", () -> x.book(0, column));
        }
    }

    private static void objectsAreApart() {
        Desk a = new Desk();
        Desk b = new Desk();
        a.talk(0, 1);
        a.tick(5);
        a.down(0);
        a.dial(2, 51);
        a.group(0, 3, 0);
        a.slot(0, 0, false);
        Check.states(b, State.IDLE, 0, 1, 2);
        Check.rests(b, 2, 0);
        Check.entries(b, 0);
        Check.due("time of b", b.tick(1), 1);
        Check.due("slot of b", b.carries(0, 0), -1);
        Check.due("group of b", b.group(0, 3, 0), 1);
    }
}
