public final class Promise05CampTest {
    public static void main(String[] args) {
        campsAndCalls();
        campedCallCanFail();
        refusals();
        lateIsForgotten();
        whateverMakesItIdle();
        lowestFirst();
        eachTimerIsAnEvent();
        campsAtOneAnother();
        Check.end();
    }

    private static void late(ExchangeDesk x, int line, int at) {
        Check.due("late call of " + line, Check.dial(x, line, 10 + at), Check.BUSY);
    }

    private static void camps(ExchangeDesk x, int line, int at) {
        late(x, line, at);
        Check.due("camp of " + line, x.camp(line), at);
    }

    private static void campsAndCalls() {
        ExchangeDesk x = new ExchangeDesk();
        Check.talk(x, 0, 1);
        camps(x, 8, 0);
        Check.state(x, 8, Check.CAMPED);
        Check.with(x, 8, 0);
        Check.path(x, 8, -1);
        Check.due("who camps at 0", x.line(0, 5), 8);
        Check.due("digit when camped", x.digit(8, 1), Check.CAMPED);
        x.tick(1000);
        x.down(1);
        Check.state(x, 0, Check.BUSY);
        Check.state(x, 8, Check.CAMPED);
        x.down(0);
        Check.state(x, 0, Check.RINGING);
        Check.with(x, 0, 8);
        Check.state(x, 8, Check.RINGBACK);
        Check.with(x, 8, 0);
        Check.due("nobody camps", x.line(0, 5), -1);
        Check.due("answer", x.up(0), Check.TALKING);
        x.down(0);
        Check.due("8 paid", x.book(1, 0), 8);
    }

    private static void campedCallCanFail() {
        ExchangeDesk x = new ExchangeDesk();
        x.up(0);
        camps(x, 8, 0);
        x.digit(0, 5);
        x.digit(0, 1);
        x.down(0);
        Check.state(x, 0, Check.IDLE);
        Check.state(x, 8, Check.BUSY);
        Check.due("nobody camps", x.line(0, 5), -1);
        Check.refusesState("camp", () -> x.camp(8));
        Check.due("blocked", x.count(0), 0);
        x.up(1);
        camps(x, 9, 1);
        Check.keepSlots(x, 1, 0);
        x.down(1);
        Check.state(x, 9, Check.BUSY);
        Check.state(x, 1, Check.IDLE);
        Check.due("blocked", x.count(0), 1);
        Check.refusesState("camp", () -> x.camp(9));
    }

    private static void refusals() {
        ExchangeDesk x = new ExchangeDesk();
        Check.refusesArgument("camp(-1)", () -> x.camp(-1));
        Check.refusesArgument("camp(24)", () -> x.camp(24));
        Check.refusesState("camp when idle", () -> x.camp(0));
        x.up(0);
        Check.refusesState("camp with dial tone", () -> x.camp(0));
        late(x, 1, 0);
        late(x, 2, 0);
        x.camp(1);
        Check.refusesState("camp when camped", () -> x.camp(1));
        Check.refusesState("somebody camps there", () -> x.camp(2));
        x.down(1);
        Check.due("nobody camps there", x.camp(2), 0);
        x.down(2);
        late(x, 3, 0);
        x.down(0);
        Check.refusesState("it is idle", () -> x.camp(3));
        x.up(0);
        Check.due("it is not idle again", x.camp(3), 0);
    }

    private static void lateIsForgotten() {
        ExchangeDesk x = new ExchangeDesk();
        x.up(0);
        late(x, 1, 0);
        x.digit(1, 5);
        x.tick(50);
        late(x, 2, 1);
        Check.due("nothing happened", x.camp(1), 0);
        x.down(1);
        late(x, 1, 0);
        x.down(1);
        Check.refusesState("camp after down", () -> x.camp(1));
        Check.dial(x, 1, 99);
        Check.refusesState("camp after another call", () -> x.camp(1));
        x.down(1);
        Check.talk(x, 1, 3);
        x.down(3);
        Check.state(x, 1, Check.BUSY);
        Check.refusesState("camp after a talk", () -> x.camp(1));
    }

    private static void whateverMakesItIdle() {
        ExchangeDesk x = new ExchangeDesk();
        Check.dial(x, 0, 16);
        camps(x, 12, 6);
        x.down(0);
        Check.with(x, 6, 12);

        ExchangeDesk y = new ExchangeDesk();
        Check.members(y, 0, 3, 6, 7);
        Check.dial(y, 0, 40);
        camps(y, 12, 6);
        y.up(7);
        Check.state(y, 0, Check.TALKING);
        Check.state(y, 6, Check.RINGING);
        Check.with(y, 6, 12);
        Check.state(y, 12, Check.RINGBACK);

        ExchangeDesk z = new ExchangeDesk();
        Check.dial(z, 0, 16);
        camps(z, 12, 6);
        z.tick(299);
        Check.state(z, 12, Check.CAMPED);
        z.tick(1);
        Check.state(z, 0, Check.BUSY);
        Check.with(z, 6, 12);
        z.tick(299);
        Check.state(z, 12, Check.RINGBACK);
        z.tick(1);
        Check.state(z, 12, Check.BUSY);
        Check.state(z, 6, Check.IDLE);

        ExchangeDesk t = new ExchangeDesk();
        Check.dial(t, 0, 16);
        camps(t, 12, 6);
        Check.talk(t, 8, 18);
        Check.due("picked up by a transfer", t.transfer(18, 50), Check.TALKING);
        Check.with(t, 8, 0);
        Check.with(t, 6, 12);
    }

    private static void lowestFirst() {
        ExchangeDesk x = new ExchangeDesk();
        Check.members(x, 0, 3, 9, 8, 7);
        Check.dial(x, 6, 40);
        camps(x, 0, 9);
        camps(x, 1, 7);
        camps(x, 2, 6);
        camps(x, 3, 8);
        x.down(6);
        Check.path(x, 6, 0);
        Check.path(x, 7, 1);
        Check.path(x, 8, 2);
        Check.path(x, 9, 3);
        Check.with(x, 6, 2);
        Check.with(x, 9, 0);
    }

    private static void eachTimerIsAnEvent() {
        ExchangeDesk x = new ExchangeDesk();
        Check.dial(x, 0, 19);
        Check.dial(x, 1, 18);
        camps(x, 10, 8);
        camps(x, 11, 9);
        x.tick(300);
        Check.with(x, 9, 11);
        Check.path(x, 9, 0);
        Check.with(x, 8, 10);
        Check.path(x, 8, 1);
    }

    private static void campsAtOneAnother() {
        ExchangeDesk x = new ExchangeDesk();
        x.up(2);
        late(x, 1, 2);
        x.digit(2, 1);
        Check.due("2 calls 1", x.digit(2, 1), Check.BUSY);
        Check.due("camp", x.camp(1), 2);
        Check.due("camp", x.camp(2), 1);
        x.down(2);
        Check.state(x, 2, Check.RINGING);
        Check.state(x, 1, Check.RINGBACK);
        Check.due("nobody camps", x.line(1, 5), -1);
    }
}
