import java.util.Arrays;
import java.util.stream.IntStream;

/** The states of a line, by the document's numbers. */
final class State {
    static final int IDLE = 0;
    static final int DIAL_TONE = 1;
    static final int DIALLING = 2;
    static final int RINGBACK = 3;
    static final int RINGING = 4;
    static final int BUSY = 5;
    static final int TALKING = 6;
    static final int PARKED = 7;
    static final int CAMPED = 8;
    static final int HOWLER = 9;

    private static final int[] OFF_THE_HOOK =
            {DIAL_TONE, DIALLING, RINGBACK, BUSY, TALKING, PARKED, CAMPED, HOWLER};
    private static final int[] ON_THE_HOOK = {IDLE, RINGING};

    private State() {
    }

    static int[] offTheHook() {
        return OFF_THE_HOOK.clone();
    }

    static int[] onTheHook() {
        return ON_THE_HOOK.clone();
    }

    /** All states but those that are named. */
    static int[] allBut(int... named) {
        return IntStream.rangeClosed(IDLE, HOWLER)
                .filter(state -> Arrays.stream(named).noneMatch(one -> one == state))
                .toArray();
    }
}
