public final class Promise10SlotTest {
    public static void main(String[] args) {
        Check.sentence("Promise 10, a slot is out of order", Promise10SlotTest::outOfOrder);
        Check.sentence("Promise 10, a slot is in order again", Promise10SlotTest::inOrderAgain);
        Check.sentence("Promise 10, out of order is not in use", Promise10SlotTest::notInUse);
        Check.sentence("Promise 10, in order again it is taken", Promise10SlotTest::takenAgain);
        Check.sentence("Promise 10, IllegalArgumentException: no such unit", Promise10SlotTest::noSuchUnit);
        Check.sentence("Promise 10, IllegalArgumentException: no such slot", Promise10SlotTest::noSuchSlot);
        Check.sentence("Promise 10, IllegalStateException: in use by ringing", Promise10SlotTest::inUseByRinging);
        Check.sentence("Promise 10, IllegalStateException: in use by talking", Promise10SlotTest::inUseByTalking);
        Check.sentence("Promise 10, free again it can be set", Promise10SlotTest::freeAgain);
        Check.end();
    }

    private static void outOfOrder() {
        Desk x = new Desk();
        x.slot(0, 0, false);
        x.slot(3, 7, false);
        x.slot(3, 7, false);
        for (int u = 0; u < 4; u++) {
            for (int s = 0; s < 8; s++) {
                boolean works = u * 8 + s != 0 && u * 8 + s != 31;
                Check.due("slot " + s + " of unit " + u, x.carries(u, s), works ? -1 : -2);
            }
        }
    }

    private static void inOrderAgain() {
        Desk x = new Desk();
        x.slot(3, 7, false);
        x.slot(3, 6, false);
        x.slot(3, 7, true);
        Check.due("in order", x.carries(3, 7), -1);
        Check.due("another one", x.carries(3, 6), -2);
        x.slot(3, 7, true);
        Check.due("still in order", x.carries(3, 7), -1);
    }

    private static void notInUse() {
        Desk x = new Desk();
        x.slot(0, 0, false);
        x.slot(1, 0, false);
        Check.slotsInUse(x, 0);
        x.dial(0, 11);
        Check.slotsInUse(x, 1);
    }

    private static void takenAgain() {
        Desk x = new Desk();
        x.slot(0, 0, false);
        x.dial(0, 11);
        Check.path(x, 0, 1);
        x.slot(0, 0, true);
        x.dial(2, 13);
        Check.path(x, 2, 0);
    }

    private static void noSuchUnit() {
        Desk x = new Desk();
        Check.changesNothing(x, () -> {
            for (int u : new int[] {-1, 4, Integer.MIN_VALUE, Integer.MAX_VALUE}) {
                Check.refusesArgument("slot(" + u + ", 0, false)", () -> x.slot(u, 0, false));
                Check.refusesArgument("slot(" + u + ", 0, true)", () -> x.slot(u, 0, true));
            }
        });
    }

    private static void noSuchSlot() {
        Desk x = new Desk();
        Check.changesNothing(x, () -> {
            for (int s : new int[] {-1, 8, Integer.MIN_VALUE, Integer.MAX_VALUE}) {
                Check.refusesArgument("slot(0, " + s + ", false)", () -> x.slot(0, s, false));
                Check.refusesArgument("slot(3, " + s + ", true)", () -> x.slot(3, s, true));
            }
        });
    }

    private static void inUseByRinging() {
        Desk x = new Desk();
        x.dial(12, 10);
        refusesInUse(x);
        x.slot(1, 0, false);
        x.slot(0, 1, false);
    }

    private static void inUseByTalking() {
        Desk x = new Desk();
        x.talk(12, 0);
        refusesInUse(x);
    }

    private static void refusesInUse(Desk x) {
        Check.changesNothing(x, () -> {
            for (int u : new int[] {0, 2}) {
                Check.refusesState("out of order, unit " + u, () -> x.slot(u, 0, false));
                Check.refusesState("in order, unit " + u, () -> x.slot(u, 0, true));
            }
        });
    }

    private static void freeAgain() {
        Desk x = new Desk();
        x.talk(0, 12);
        x.down(12);
        x.slot(0, 0, false);
        x.slot(2, 0, false);
        Check.due("out of order", x.carries(0, 0), -2);
        Check.due("out of order", x.carries(2, 0), -2);
    }
}
