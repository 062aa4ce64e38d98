/** How tests write down operations and bundles. */
abstract class Written {
    static int[] op(int code, int d, int a, int b, int n, int guard) {
        return new int[] {code, d, a, b, n, guard};
    }

    /** A bundle with these slots, from slot 0 on. */
    static long bundle(int... slots) {
        long bits = 0;
        for (int k = 0; k < slots.length; k++) {
            bits |= (long) slots[k] << (8 * k);
        }
        return bits;
    }
}
