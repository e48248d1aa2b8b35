/** Numbers inside a range, just outside it, and far outside it. */
final class Numbers {
    private Numbers() {
    }

    static int[] inside(int least, int most) {
        int[] all = new int[most - least + 1];
        for (int k = 0; k < all.length; k++) {
            all[k] = least + k;
        }
        return all;
    }

    /** Among them those that a cut to a byte, to a short, or a wrap would bring inside. */
    static int[] outside(int least, int most) {
        return new int[] {least - 1, most + 1, least - 2, most + 2, least - 256, most + 256, least - 65536, most + 65536,
            Integer.MIN_VALUE, Integer.MAX_VALUE, Integer.MIN_VALUE + 1, Integer.MAX_VALUE - 1, 1 << 30, -(1 << 30)};
    }

    /** All inside, and those outside. */
    static int[] about(int least, int most) {
        int[] in = inside(least, most);
        int[] out = outside(least, most);
        int[] all = new int[in.length + out.length];
        System.arraycopy(in, 0, all, 0, in.length);
        System.arraycopy(out, 0, all, in.length, out.length);
        return all;
    }

    /** The last inside and the first outside on both sides, the least and the greatest int. */
    static int[] edges(int least, int most) {
        return new int[] {least - 1, least, most, most + 1, Integer.MIN_VALUE, Integer.MAX_VALUE};
    }
}
