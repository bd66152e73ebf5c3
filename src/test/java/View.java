import java.util.Arrays;

/** All that an exchange shows of lines, slots and counts, read once (179 calls). */
final class View {
    final int[][] lines = new int[24][6];
    final int[][] slots = new int[4][8];
    final int[] counts = new int[3];

    View(Desk x) {
        for (int l = 0; l < 24; l++) {
            for (int what = 0; what < 6; what++) {
                lines[l][what] = x.line(l, what);
            }
        }
        for (int u = 0; u < 4; u++) {
            for (int s = 0; s < 8; s++) {
                slots[u][s] = x.carries(u, s);
            }
        }
        for (int what = 0; what < 3; what++) {
            counts[what] = x.count(what);
        }
    }

    @Override
    public String toString() {
        return "lines " + Arrays.deepToString(lines) + ", slots " + Arrays.deepToString(slots)
                + ", counts " + Arrays.toString(counts);
    }
}
