/** Numbers far outside every range of the document, and those that hide one inside it. */
final class Far {
    private static final long TWO_TO_32 = 1L << 32;
    private static final int[] INTS = {
        Integer.MIN_VALUE, Integer.MIN_VALUE + 1, -65536, -256, 256, 65536, 1 << 24, Integer.MAX_VALUE,
    };

    private Far() {
    }

    /** Numbers of 64 bits whose lowest 32 bits are a good number; then those at the ends. */
    static long[] longsLike(long good) {
        return new long[] {
            good + TWO_TO_32, good - TWO_TO_32, good + 2 * TWO_TO_32, good + (1L << 62), good + Long.MIN_VALUE,
            1L << 31, -(1L << 31), TWO_TO_32, -TWO_TO_32, TWO_TO_32 - 1,
            Long.MAX_VALUE, Long.MAX_VALUE - 1, Long.MIN_VALUE, Long.MIN_VALUE + 1,
        };
    }

    /** Numbers of 32 bits whose lowest 8 or 16 bits are a good number; then those at the ends. */
    static int[] intsLike(int good) {
        int[] all = new int[2 * INTS.length];
        for (int i = 0; i < INTS.length; i++) {
            all[2 * i] = INTS[i];
            all[2 * i + 1] = INTS[i] + (INTS[i] > Integer.MAX_VALUE - good ? 0 : good);
        }
        return all;
    }
}
