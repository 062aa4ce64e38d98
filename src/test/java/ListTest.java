/** Promises 13 to 16 for list schedules: edges, heights, cycles, bundles. */
public final class ListTest extends Written {
    private static final Checks CHECKS = new Checks("ListTest");

    public static void main(String[] args) {
        pairsOfVariables();
        pairsInOrder();
        pairsOfMemory();
        choice();
        negativeDelays();
        packed();
        wrongInputs();
        CHECKS.end();
    }

    private static BundleMill mill(int[]... ops) {
        BundleMill mill = new BundleMill();
        mill.machine(4, 2, 2, 3, 8, 4);
        mill.block(0, 0, 0, 0);
        for (int[] op : ops) {
            mill.operation(op[0], op[1], op[2], op[3], op[4], op[5]);
        }
        return mill;
    }

    /** Two operations: the height of the first, and the cycle of the second. */
    private static void pair(String what, int[] one, int[] two, int height, int cycle) {
        BundleMill mill = mill(one, two);
        mill.compile();
        CHECKS.same(what + ": height", mill.place(0, 0, 2), height);
        CHECKS.same(what + ": first cycle", mill.place(0, 0, 3), 0);
        CHECKS.same(what + ": second cycle", mill.place(0, 1, 3), cycle);
    }

    private static void pairsOfVariables() {
        pair("nothing shared", op(0, 1, 2, 2, 0, 0), op(0, 3, 1, 1, 0, 0), 2, 0);
        pair("a is read", op(0, 1, 0, 0, 0, 0), op(1, 2, 1, 0, 0, 0), 4, 2);
        pair("b is read", op(4, 1, 0, 0, 0, 0), op(5, 2, 0, 1, 0, 0), 5, 3);
        pair("STEP reads no b", op(4, 1, 0, 0, 0, 0), op(1, 2, 0, 1, 0, 0), 3, 0);
        pair("LOAD reads a", op(4, 1, 0, 0, 0, 0), op(7, 2, 1, 0, 0, 0), 7, 3);
        pair("LOAD reads no b", op(4, 1, 0, 0, 0, 0), op(7, 2, 0, 1, 0, 0), 3, 0);
        pair("STORE reads a", op(4, 1, 0, 0, 0, 0), op(8, 2, 1, 0, 0, 0), 4, 3);
        pair("STORE reads b", op(4, 1, 0, 0, 0, 0), op(8, 2, 0, 1, 0, 0), 4, 3);
        pair("OUT reads a", op(4, 1, 0, 0, 0, 0), op(9, 2, 1, 0, 0, 0), 4, 3);
        pair("OUT reads no b", op(4, 1, 0, 0, 0, 0), op(9, 2, 0, 1, 0, 0), 3, 0);
        pair("STORE writes no d", op(8, 1, 0, 0, 0, 0), op(0, 1, 0, 0, 0, 0), 1, 0);
        pair("OUT writes no d", op(9, 1, 0, 0, 0, 0), op(9, 0, 1, 0, 0, 0), 2, 1);
        pair("a guard is read", op(4, 1, 0, 0, 0, 0), op(0, 2, 0, 0, 0, 2), 5, 3);
        pair("the other guard too", op(4, 1, 0, 0, 0, 0), op(0, 2, 0, 0, 0, -2), 5, 3);
        pair("DIV's latency", op(6, 1, 0, 0, 0, 0), op(0, 2, 0, 0, 0, -2), 10, 8);
        pair("read, then written", op(4, 2, 1, 0, 0, 0), op(0, 1, 0, 0, 0, 0), 3, 0);
        pair("a guard read, then written", op(9, 0, 0, 0, 0, 2), op(0, 1, 0, 0, 0, 0), 1, 0);
        pair("written late, then soon", op(7, 1, 0, 0, 0, 0), op(0, 1, 0, 0, 0, 0), 5, 3);
        pair("written soon, then late", op(0, 1, 0, 0, 0, 0), op(7, 1, 0, 0, 0, 0), 3, 0);
        pair("both sorts of edges", op(7, 1, 0, 0, 0, 0), op(1, 1, 1, 0, 0, 0), 6, 4);
    }

    private static void pairsInOrder() {
        pair("OUT, OUT", op(9, 0, 0, 0, 0, 0), op(9, 0, 0, 0, 0, 0), 2, 1);
        pair("DIV, OUT", op(6, 1, 0, 0, 0, 0), op(9, 0, 0, 0, 0, 0), 8, 1);
        pair("OUT, DIV", op(9, 0, 0, 0, 0, 0), op(6, 1, 0, 0, 0, 0), 9, 1);
        pair("DIV, STORE", op(6, 1, 0, 0, 0, 0), op(8, 0, 0, 0, 0, 0), 8, 1);
        pair("STORE, DIV", op(8, 0, 0, 0, 0, 0), op(6, 1, 0, 0, 0, 0), 9, 1);
        pair("DIV, DIV", op(6, 1, 0, 0, 0, 0), op(6, 2, 0, 0, 0, 0), 9, 1);
        pair("DIV, LOAD", op(6, 1, 0, 0, 0, 0), op(7, 2, 0, 0, 0, 0), 8, 0);
        pair("OUT, STORE", op(9, 0, 0, 0, 0, 0), op(8, 0, 0, 0, 0, 0), 1, 0);
        pair("DIV, MUL", op(6, 1, 0, 0, 0, 0), op(4, 2, 0, 0, 0, 0), 8, 0);
    }

    private static void pairsOfMemory() {
        int[] load = op(7, 4, 1, 0, 0, 0);
        pair("STORE, LOAD", op(8, 0, 1, 0, 0, 0), load, 5, 1);
        pair("LOAD, STORE", load, op(8, 0, 1, 0, 0, 0), 4, 0);
        pair("LOAD, LOAD", load, op(7, 5, 1, 0, 0, 0), 4, 0);
        pair("STORE, STORE", op(8, 0, 1, 0, 3, 0), op(8, 0, 1, 0, 3, 0), 2, 1);
        pair("another offset", op(8, 0, 1, 0, 1, 0), load, 1, 0);
        pair("64 cells on", op(8, 0, 1, 0, 64, 0), load, 5, 1);
        pair("far below", op(8, 0, 1, 0, Integer.MIN_VALUE, 0), load, 5, 1);
        pair("one below that wraps", op(8, 0, 1, 0, Integer.MAX_VALUE, 0),
                op(7, 4, 1, 0, -1, 0), 5, 1);
        pair("another variable", op(8, 0, 2, 0, 1, 0), load, 5, 1);
        pair("guards tell nothing", op(8, 0, 1, 0, 0, 3), op(7, 4, 1, 0, 0, -3), 5, 1);
        BundleMill loose = mill(op(8, 0, 1, 0, 1, 0), op(7, 4, 1, 0, 0, 0), op(0, 1, 0, 0, 0, 0));
        loose.compile();
        CHECKS.same("a loose variable", loose.place(0, 1, 3), 1);
        BundleMill stepped = mill(op(8, 0, 1, 0, 1, 0), op(7, 4, 1, 0, 0, 0),
                op(1, 1, 1, 0, 1, 0));
        stepped.compile();
        CHECKS.same("a stepped variable", stepped.place(0, 1, 3), 0);
        BundleMill guarded = mill(op(8, 0, 1, 0, 1, 0), op(7, 4, 1, 0, 0, 0),
                op(1, 1, 1, 0, 1, 5));
        guarded.compile();
        CHECKS.same("a step with a guard", guarded.place(0, 1, 3), 1);
        BundleMill twice = mill(op(8, 0, 1, 0, 1, 0), op(7, 4, 1, 0, 0, 0), op(1, 1, 1, 0, 1, 0),
                op(1, 1, 1, 0, 1, 0));
        twice.compile();
        CHECKS.same("two steps", twice.place(0, 1, 3), 1);
        BundleMill other = mill(op(8, 0, 1, 0, 1, 0), op(7, 4, 1, 0, 0, 0), op(1, 1, 2, 0, 1, 0));
        other.compile();
        CHECKS.same("a step from another variable", other.place(0, 1, 3), 1);
    }

    private static void choice() {
        BundleMill mill = mill(op(0, 1, 0, 0, 0, 0), op(4, 2, 0, 0, 0, 0), op(0, 3, 0, 0, 0, 0),
                op(1, 4, 3, 0, 0, 0), op(9, 0, 0, 0, 0, 0));
        mill.machine(1, 1, 1, 3, 8, 2);
        mill.compile();
        int[] cycles = {2, 0, 1, 3, 0};
        for (int k = 0; k < cycles.length; k++) {
            CHECKS.same("cycle of " + k, mill.place(0, k, 3), cycles[k]);
            CHECKS.same("no cycle by modulo", mill.place(0, k, 4), BundleMill.NONE);
        }
        CHECKS.same("L", mill.shape(0, 1), 4);
        int[] empty = {0, 0, 0, 0};
        for (int what = 2; what <= 4; what++) {
            CHECKS.same("no LOOP: " + what, mill.shape(0, what), empty[what - 2]);
        }
        BundleMill ties = mill(op(0, 1, 0, 0, 0, 0), op(0, 2, 0, 0, 0, 0), op(0, 3, 0, 0, 0, 0));
        ties.machine(2, 1, 1, 3, 8, 2);
        ties.compile();
        CHECKS.same("of these the lowest number", ties.place(0, 1, 3), 0);
        CHECKS.same("the last one waits", ties.place(0, 2, 3), 1);
    }

    private static void negativeDelays() {
        BundleMill mill = mill(op(4, 2, 0, 0, 0, 0), op(1, 3, 2, 0, 0, 0), op(0, 2, 0, 0, 0, 0));
        mill.machine(4, 2, 1, 3, 8, 4);
        mill.compile();
        CHECKS.same("who reads waits", mill.place(0, 1, 3), 3);
        CHECKS.same("who writes again goes beside it", mill.place(0, 2, 3), 3);
        CHECKS.same("L", mill.shape(0, 1), 4);
    }

    private static void packed() {
        BundleMill mill = mill(op(7, 1, 0, 0, 0, 0), op(0, 2, 0, 0, 0, 0), op(7, 3, 0, 0, 0, 0),
                op(0, 4, 0, 0, 0, 0), op(0, 5, 0, 0, 0, 0), op(0, 6, 0, 0, 0, 0),
                op(0, 7, 0, 0, 0, 0), op(0, 8, 0, 0, 0, 0), op(7, 9, 0, 0, 0, 0),
                op(1, 1, 1, 0, 0, 0));
        mill.compile();
        CHECKS.same("first row", mill.bundle(0, 0, false), bundle(2, 4, 5, 6, 1, 3));
        CHECKS.same("second row", mill.bundle(0, 1, false), bundle(7, 8, 0, 0, 9, 0));
        CHECKS.same("nothing", mill.bundle(0, 2, false), 0);
        CHECKS.same("last operation", mill.bundle(0, 4, false), 10);
        CHECKS.same("L", mill.shape(0, 1), 6);
        CHECKS.same("the last row", mill.bundle(0, 5, false), 0);
        CHECKS.refuses(Checks.INDEX, "one behind it", () -> mill.bundle(0, 6, false));
        CHECKS.same("filled", mill.filled(0), 10 / 36.0);
    }

    private static void wrongInputs() {
        BundleMill mill = mill(op(0, 1, 0, 0, 0, 0));
        mill.block(0, 0, 0, 0);
        CHECKS.refuses(Checks.STATE, "shape, not compiled", () -> mill.shape(9, 9));
        CHECKS.refuses(Checks.STATE, "place, not compiled", () -> mill.place(9, 9, 9));
        CHECKS.refuses(Checks.STATE, "bundle, not compiled", () -> mill.bundle(9, 9, true));
        CHECKS.refuses(Checks.STATE, "filled, not compiled", () -> mill.filled(9));
        mill.compile();
        for (int block : new int[] {-1, 2, 6, Integer.MAX_VALUE, Integer.MIN_VALUE}) {
            CHECKS.refuses(Checks.ELEMENT, "shape of " + block, () -> mill.shape(block, 9));
            CHECKS.refuses(Checks.ELEMENT, "place of " + block, () -> mill.place(block, 0, 9));
            CHECKS.refuses(Checks.ELEMENT, "bundle of " + block, () -> mill.bundle(block, 9, true));
            CHECKS.refuses(Checks.ELEMENT, "filled of " + block, () -> mill.filled(block));
        }
        for (int what : new int[] {-1, 7, Integer.MAX_VALUE, Integer.MIN_VALUE}) {
            CHECKS.refuses(Checks.INDEX, "shape " + what, () -> mill.shape(0, what));
            CHECKS.refuses(Checks.INDEX, "place " + what, () -> mill.place(0, 0, what));
            CHECKS.refuses(Checks.ELEMENT, "no operation " + what, () -> mill.place(0, what, 9));
            CHECKS.refuses(Checks.INDEX, "row " + what, () -> mill.bundle(0, what, false));
            CHECKS.refuses(Checks.INDEX, "modulo row " + what, () -> mill.bundle(0, what, true));
        }
        CHECKS.refuses(Checks.INDEX, "place 5", () -> mill.place(0, 0, 5));
        CHECKS.refuses(Checks.ELEMENT, "no operation 1", () -> mill.place(0, 1, 0));
        CHECKS.refuses(Checks.INDEX, "no modulo schedule", () -> mill.bundle(0, 0, true));
        CHECKS.refuses(Checks.INDEX, "no rows", () -> mill.bundle(1, 0, false));
        CHECKS.same("filled of none", mill.filled(1), 0.0);
        CHECKS.same("L of none", mill.shape(1, 1), 0);
    }
}
