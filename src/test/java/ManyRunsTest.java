import java.util.Random;

/** Runs of mixed calls: nothing is thrown but what is promised, and lines, slots, units and book fit together. */
public final class ManyRunsTest {
    private static final int RUNS = 4000;
    /** The calls that reading the view and the book's units takes at most. */
    private static final int CALLS_TO_READ = 179 + 60;

    private final Random random;
    private final Desk x = new Desk();
    private View view;

    private ManyRunsTest(int seed) {
        random = new Random(seed);
    }

    public static void main(String[] args) {
        for (int seed = 0; seed < RUNS; seed++) {
            ManyRunsTest run = new ManyRunsTest(seed);
            Check.sentence("Promises 1 to 14, run " + seed, run::run);
        }
        Check.end();
    }

    // Runs end at different places, since behind 512 calls nothing is promised that could be looked at.
    private void run() {
        int unused = random.nextInt(100);
        while (x.callsLeft() > CALLS_TO_READ + unused) {
            try {
                someCall();
            } catch (IllegalArgumentException | IllegalStateException e) {
                Check.holds("a plain exception", e.getClass().getSuperclass() == RuntimeException.class);
            }
        }
        view = new View(x);
        for (int l = 0; l < 24; l++) {
            lineFits(l);
        }
        placesFit();
        slotsFit();
        unitsFit();
    }

    private void someCall() {
        int line = random.nextInt(50) == 0 ? random.nextInt() : random.nextInt(24);
        switch (random.nextInt(20)) {
            case 0, 1, 2, 3, 4 -> x.up(line);
            case 5, 6 -> x.down(line);
            case 7, 8, 9, 10, 11 -> x.digit(line, random.nextInt(7));
            case 12, 13 -> x.camp(line);
            case 14 -> x.park(line, random.nextInt(5));
            case 15 -> x.transfer(line, random.nextInt(70));
            case 16 -> x.tick(1 + random.nextInt(random.nextInt(4) == 0 ? 400 : 20));
            case 17, 18 -> x.group(random.nextInt(4), random.nextInt(8) == 0 ? -1 : line, random.nextInt(4));
            default -> x.slot(random.nextInt(4), random.nextInt(8), random.nextInt(3) == 0);
        }
    }

    private int state(int line) {
        return view.lines[line][0];
    }

    private int with(int line) {
        return view.lines[line][1];
    }

    private int path(int line) {
        return view.lines[line][2];
    }

    private int camper(int line) {
        return view.lines[line][5];
    }

    private void lineFits(int l) {
        if (camper(l) != -1) {
            Check.due("camper's state", state(camper(l)), State.CAMPED);
            Check.due("camper's line", with(camper(l)), l);
            Check.holds("nobody camps at an idle line", state(l) != State.IDLE);
        }
        switch (state(l)) {
            case State.TALKING -> talkFits(l, with(l));
            case State.RINGING -> {
                Check.due("its caller", state(with(l)), State.RINGBACK);
                isCarried(l, with(l));
            }
            case State.RINGBACK -> {
                Check.due("what rings for it", with(with(l)), l);
                Check.due("rings", state(with(l)), State.RINGING);
                Check.due("same slot", path(with(l)), path(l));
            }
            case State.CAMPED -> {
                Check.due("camps at it", camper(with(l)), l);
                Check.due("no path", path(l), -1);
            }
            case State.PARKED -> Check.due("no path", path(l), -1);
            default -> {
                Check.due("with nobody", with(l), -1);
                Check.due("no path", path(l), -1);
            }
        }
    }

    private void talkFits(int l, int other) {
        Check.due("talks back", with(other), l);
        Check.due("talks too", state(other), State.TALKING);
        Check.due("same slot", path(other), path(l));
        isCarried(l, other);
    }

    private void isCarried(int l, int other) {
        Check.due("carried in its unit", view.slots[l / 6][path(l)], Math.min(l, other));
        Check.due("carried in the other unit", view.slots[other / 6][path(l)], Math.min(l, other));
    }

    private void placesFit() {
        boolean[] taken = new boolean[4];
        for (int l = 0; l < 24; l++) {
            if (state(l) == State.PARKED) {
                Check.holds("a place has one line", !taken[with(l)]);
                taken[with(l)] = true;
            }
        }
    }

    private void slotsFit() {
        int due = 0;
        for (int l = 0; l < 24; l++) {
            if (state(l) == State.RINGING || state(l) == State.TALKING && l < with(l)) {
                due += l / 6 == with(l) / 6 ? 1 : 2;
            }
        }
        int carried = 0;
        for (int[] unit : view.slots) {
            for (int slot : unit) {
                carried += slot >= 0 ? 1 : 0;
            }
        }
        Check.due("slots carried", carried, due);
        Check.due("slots in use", view.counts[2], due);
    }

    private void unitsFit() {
        int had = view.counts[1];
        int paid = 0;
        int talking = 0;
        for (int l = 0; l < 24; l++) {
            paid += view.lines[l][3];
            talking += state(l) == State.TALKING ? 1 : 0;
        }
        int written = 0;
        for (int k = 0; k < had && had <= 60; k++) {
            written += x.book(k, 3);
        }
        Check.holds("a going call costs a unit or more", paid - written >= talking / 2);
        if (talking == 0 && had <= 60) {
            Check.due("units paid are units written", paid, written);
        }
    }
}
