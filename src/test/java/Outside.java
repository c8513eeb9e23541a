/** Numbers that are not in a range: those next to it on both sides, and some that are far from it. */
final class Outside {
    private Outside() {
    }

    static int[] of(int first, int last) {
        // Those far away are 0, or near 0, if a sum wraps around or only the low bits are looked at.
        return new int[] {
            first - 1, last + 1, first - 2, last + 2, first - 256, last + 256, 1 << 16, 1 << 30,
            Integer.MIN_VALUE, Integer.MIN_VALUE + 1, Integer.MIN_VALUE + 10, Integer.MAX_VALUE,
        };
    }
}
