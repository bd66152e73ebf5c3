public final class Promise01NewObjectTest {
    public static void main(String[] args) {
        ExchangeDesk x = new ExchangeDesk();
        for (int l = 0; l < 24; l++) {
            Check.state(x, l, Check.IDLE);
            Check.with(x, l, -1);
            Check.path(x, l, -1);
            Check.due("units of " + l, x.line(l, 3), 0);
            Check.due("do not disturb of " + l, x.line(l, 4), 0);
            Check.due("who camps at " + l, x.line(l, 5), -1);
        }
        for (int u = 0; u < 4; u++) {
            for (int s = 0; s < 8; s++) {
                Check.due("slot " + u + " " + s, x.carries(u, s), -1);
            }
        }
        for (int what = 0; what < 3; what++) {
            Check.due("count " + what, x.count(what), 0);
        }
        Check.refusesIndex("book(0, 0)", () -> x.book(0, 0));
        for (int g = 0; g < 4; g++) {
            Check.due("empty group", Check.dial(x, g, 40 + g), Check.BUSY);
            Check.due("first member", x.group(g, 20, 0), 1);
        }
        orderIsTheFirst();
        objectsAreApart();
        Check.end();
    }

    private static void orderIsTheFirst() {
        ExchangeDesk x = new ExchangeDesk();
        x.group(3, 9, 3);
        x.group(3, 8, 3);
        Check.due("dial group", Check.dial(x, 0, 43), Check.RINGBACK);
        Check.state(x, 9, Check.RINGING);
        Check.state(x, 8, Check.IDLE);
        x.down(0);
        Check.dial(x, 0, 43);
        Check.state(x, 9, Check.RINGING);
    }

    private static void objectsAreApart() {
        ExchangeDesk a = new ExchangeDesk();
        ExchangeDesk b = new ExchangeDesk();
        a.up(0);
        a.tick(5);
        a.slot(0, 0, false);
        Check.state(b, 0, Check.IDLE);
        Check.due("time of b", b.tick(1), 1);
        Check.due("slot of b", b.carries(0, 0), -1);
    }
}
