import java.util.Random;

/** Long runs of mixed calls: nothing is thrown but what is promised, and what lines, slots and book say fits together. */
public final class ManyRunsTest {
    private static final int RUNS = 400;
    private static final int CALLS = 512;

    private final Random random;
    private final ExchangeDesk x = new ExchangeDesk();
    private final String name;

    private ManyRunsTest(int seed) {
        random = new Random(seed);
        name = "run " + seed;
    }

    public static void main(String[] args) {
        for (int seed = 0; seed < RUNS; seed++) {
            new ManyRunsTest(seed).run();
        }
        Check.end();
    }

    private void run() {
        for (int i = 0; i < CALLS; i++) {
            try {
                someCall();
            } catch (IllegalArgumentException | IllegalStateException e) {
                Check.due(name + ": a plain exception", e.getClass().getSuperclass() == RuntimeException.class ? 1 : 0, 1);
            }
            linesFit();
            slotsFit();
            unitsFit();
        }
    }

    private void someCall() {
        int line = random.nextInt(50) == 0 ? random.nextInt() : random.nextInt(24);
        switch (random.nextInt(20)) {
            case 0, 1, 2, 3, 4 -> x.up(line);
            case 5, 6 -> x.down(line);
            case 7, 8, 9, 10, 11 -> dialSome(line);
            case 12 -> x.camp(line);
            case 13 -> x.park(line, random.nextInt(5));
            case 14 -> x.transfer(line, random.nextInt(60));
            case 15 -> x.tick(1 + random.nextInt(random.nextInt(4) == 0 ? 400 : 20));
            case 16, 17 -> x.group(random.nextInt(4), random.nextInt(8) == 0 ? -1 : line, random.nextInt(4));
            case 18 -> x.slot(random.nextInt(4), random.nextInt(8), random.nextInt(3) == 0);
            default -> anyLineCamps();
        }
    }

    private void dialSome(int line) {
        x.digit(line, random.nextInt(7));
        if (random.nextBoolean()) {
            x.digit(line, random.nextInt(5));
        }
    }

    private void anyLineCamps() {
        for (int l = 0; l < 24; l++) {
            if (x.line(l, 0) == Check.BUSY) {
                x.camp(l);
            }
        }
    }

    private void linesFit() {
        boolean[] places = new boolean[4];
        for (int l = 0; l < 24; l++) {
            int with = x.line(l, 1);
            int path = x.line(l, 2);
            int camper = x.line(l, 5);
            if (camper != -1) {
                Check.due(name + ": camper's state", x.line(camper, 0), Check.CAMPED);
                Check.due(name + ": camper's line", x.line(camper, 1), l);
            }
            switch (x.line(l, 0)) {
                case Check.TALKING -> {
                    Check.due(name + ": talks back", x.line(with, 1), l);
                    Check.due(name + ": talks too", x.line(with, 0), Check.TALKING);
                    Check.due(name + ": same slot", x.line(with, 2), path);
                    Check.due(name + ": carried", x.carries(l / 6, path), Math.min(l, with));
                }
                case Check.RINGING -> {
                    Check.due(name + ": its caller", x.line(with, 0), Check.RINGBACK);
                    Check.due(name + ": carried", x.carries(l / 6, path), Math.min(l, with));
                    Check.due(name + ": carried", x.carries(with / 6, path), Math.min(l, with));
                }
                case Check.RINGBACK -> {
                    Check.due(name + ": rings for it", x.line(with, 1), l);
                    Check.due(name + ": rings", x.line(with, 0), Check.RINGING);
                    Check.due(name + ": same slot", x.line(with, 2), path);
                }
                case Check.CAMPED -> {
                    Check.due(name + ": camps at it", x.line(with, 5), l);
                    Check.due(name + ": no path", path, -1);
                }
                case Check.PARKED -> {
                    Check.due(name + ": place is its own", places[with] ? 1 : 0, 0);
                    places[with] = true;
                    Check.due(name + ": no path", path, -1);
                }
                default -> {
                    Check.due(name + ": with nobody", with, -1);
                    Check.due(name + ": no path", path, -1);
                }
            }
            if (x.line(l, 0) == Check.IDLE) {
                Check.due(name + ": nobody camps at an idle line", camper, -1);
            }
        }
    }

    private void slotsFit() {
        int due = 0;
        for (int l = 0; l < 24; l++) {
            int state = x.line(l, 0);
            int with = x.line(l, 1);
            if (state == Check.RINGING || state == Check.TALKING && l < with) {
                due += l / 6 == with / 6 ? 1 : 2;
            }
        }
        int carried = 0;
        for (int u = 0; u < 4; u++) {
            for (int s = 0; s < 8; s++) {
                carried += x.carries(u, s) >= 0 ? 1 : 0;
            }
        }
        Check.due(name + ": slots carried", carried, due);
        Check.due(name + ": slots in use", x.count(2), due);
    }

    private void unitsFit() {
        int had = x.count(1);
        int paid = 0;
        int talking = 0;
        for (int l = 0; l < 24; l++) {
            paid += x.line(l, 3);
            talking += x.line(l, 0) == Check.TALKING ? 1 : 0;
        }
        if (had > 60) {
            return;
        }
        int written = 0;
        for (int k = 0; k < had; k++) {
            written += x.book(k, 3);
        }
        Check.due(name + ": a going call costs a unit or more", paid - written >= talking / 2 ? 1 : 0, 1);
        if (talking == 0) {
            Check.due(name + ": units paid are units written", paid, written);
        }
    }
}
