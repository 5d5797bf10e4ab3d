/** Numbers at which a call may go wrong. */
final class Edges {
    /** The least and the greatest int, and their neighbours. */
    static final int[] FAR = {Integer.MIN_VALUE, Integer.MIN_VALUE + 1, Integer.MAX_VALUE - 1,
        Integer.MAX_VALUE};

    private Edges() {
    }

    /** The far ints, all numbers from low to high, and some far beyond 256. */
    static int[] sweep(int low, int high) {
        int[] all = new int[high - low + 1 + 2 * FAR.length];
        int filled = 0;
        for (int far : FAR) {
            all[filled++] = far;
        }
        for (int i = low; i <= high; i++) {
            all[filled++] = i;
        }
        // A number whose last bits are those of a right one must not be taken for it.
        for (int bits : new int[] {8, 16, 24, 30}) {
            all[filled++] = (1 << bits) + 1;
        }
        return all;
    }
}
