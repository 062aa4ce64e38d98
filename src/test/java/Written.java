import java.util.Arrays;

/** How tests write down blocks, operations and bundles. */
abstract class Written {
    static final int MIN = Integer.MIN_VALUE;
    static final int MAX = Integer.MAX_VALUE;

    static int[] op(int code, int d, int a, int b, int n, int guard) {
        return new int[] {code, d, a, b, n, guard};
    }

    static int[] set(int d, int n) {
        return op(0, d, 0, 0, n, 0);
    }

    static int[] step(int d, int a, int n) {
        return op(1, d, a, 0, n, 0);
    }

    static int[] add(int d, int a, int b) {
        return op(2, d, a, b, 0, 0);
    }

    static int[] mul(int d, int a, int b) {
        return op(4, d, a, b, 0, 0);
    }

    static int[] less(int d, int a, int b) {
        return op(5, d, a, b, 0, 0);
    }

    static int[] div(int d, int a, int b) {
        return op(6, d, a, b, 0, 0);
    }

    static int[] load(int d, int a, int n) {
        return op(7, d, a, 0, n, 0);
    }

    /** Memory at a + n becomes b. */
    static int[] store(int a, int n, int b) {
        return op(8, 0, a, b, n, 0);
    }

    static int[] out(int a) {
        return op(9, 0, a, 0, 0, 0);
    }

    static int[] guarded(int guard, int[] op) {
        int[] other = op.clone();
        other[5] = guard;
        return other;
    }

    static int[] halt() {
        return new int[] {0, 0, 0, 0};
    }

    static int[] jump(int t) {
        return new int[] {1, 0, t, 0};
    }

    static int[] branch(int v, int t, int f) {
        return new int[] {2, v, t, f};
    }

    static int[] loop(int v, int t) {
        return new int[] {3, v, t, 0};
    }

    /** As many times the same operation. */
    static int[][] times(int count, int[] op) {
        int[][] ops = new int[count][];
        Arrays.fill(ops, op);
        return ops;
    }

    /** Lays a block with its operations. */
    static BundleMill lay(BundleMill mill, int[] end, int[]... ops) {
        mill.block(end[0], end[1], end[2], end[3]);
        for (int[] op : ops) {
            operate(mill, op);
        }
        return mill;
    }

    static int operate(BundleMill mill, int[] op) {
        return mill.operation(op[0], op[1], op[2], op[3], op[4], op[5]);
    }

    static BundleMill machine(int... sizes) {
        BundleMill mill = new BundleMill();
        mill.machine(sizes[0], sizes[1], sizes[2], sizes[3], sizes[4], sizes[5]);
        return mill;
    }

    static BundleMill compiled(BundleMill mill) {
        mill.compile();
        return mill;
    }

    /** A block that halts, compiled. */
    static BundleMill halting(BundleMill mill, int[]... ops) {
        return compiled(lay(mill, halt(), ops));
    }

    /** A block 0 that is a LOOP whose count is variable 11, and a HALT, compiled. */
    static BundleMill looping(BundleMill mill, int[]... ops) {
        return compiled(lay(lay(mill, loop(11, 1), ops), halt()));
    }

    /** Variable 11 becomes the count in block 0, block 1 is a LOOP of it, then a HALT. */
    static BundleMill counted(BundleMill mill, int count, int[]... ops) {
        lay(mill, jump(1), set(11, count));
        lay(mill, loop(11, 2), ops);
        return compiled(lay(mill, halt()));
    }

    /** A bundle with these slots, from slot 0 on. */
    static long bundle(int... slots) {
        long bits = 0;
        for (int k = 0; k < slots.length; k++) {
            bits |= (long) slots[k] << (8 * k);
        }
        return bits;
    }
}
