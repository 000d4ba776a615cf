/** Numbers just outside a range, and far ones that would come back into it if they wrapped around. */
final class Outside {
    private Outside() {
    }

    static int[] below(int least) {
        return new int[] {least - 1, least - 2, least - 256, least - (1 << 16), least - (1 << 30),
            Integer.MIN_VALUE, Integer.MIN_VALUE + 1};
    }

    static int[] above(int greatest) {
        return new int[] {greatest + 1, greatest + 2, greatest + 256, greatest + (1 << 16), greatest + (1 << 30),
            Integer.MAX_VALUE, Integer.MAX_VALUE - 1};
    }

    static int[] of(int least, int greatest) {
        int[] below = below(least);
        int[] above = above(greatest);
        int[] both = new int[below.length + above.length];
        System.arraycopy(below, 0, both, 0, below.length);
        System.arraycopy(above, 0, both, below.length, above.length);
        return both;
    }

    static int[] ofDies() {
        return of(0, 9);
    }

    static int[] ofWear() {
        return of(0, 5);
    }

    static int[] ofSides() {
        return of(0, 1);
    }
}
