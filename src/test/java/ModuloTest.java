/** Promises 13 to 16 for loops: MII, the tries, stages and bundles. */
public final class ModuloTest extends Written {
    private static final Checks CHECKS = new Checks("ModuloTest");

    public static void main(String[] args) {
        noLoop();
        leastByUnits();
        leastByWays();
        leastByMemory();
        moreStages();
        tooManyStages();
        drivenOut();
        nextInterval();
        lastSteps();
        noneGoes();
        CHECKS.end();
    }

    /** A loop whose count is variable 11, compiled. */
    private static BundleMill loop(int[] machine, int[]... ops) {
        BundleMill mill = new BundleMill();
        mill.machine(machine[0], machine[1], machine[2], machine[3], machine[4], machine[5]);
        mill.block(3, 11, 1, 0);
        for (int[] op : ops) {
            mill.operation(op[0], op[1], op[2], op[3], op[4], op[5]);
        }
        mill.block(0, 0, 0, 0);
        mill.compile();
        return mill;
    }

    private static int[] machine(int... sizes) {
        return sizes;
    }

    /** MII, II, STAGES, then the cycles by modulo. */
    private static void shape(String what, BundleMill mill, int... due) {
        for (int k = 0; k < due.length; k++) {
            CHECKS.same(what + ": " + k, k < 3 ? mill.shape(0, 2 + k) : mill.place(0, k - 3, 4),
                    due[k]);
        }
    }

    private static void noLoop() {
        BundleMill mill = loop(machine(1, 1, 1, 1, 1, 1));
        shape("no operations", mill, 0, 0, 0);
        CHECKS.same("L", mill.shape(0, 1), 0);
        CHECKS.same("filled", mill.filled(0), 0.0);
        CHECKS.refuses(Checks.INDEX, "no rows", () -> mill.bundle(0, 0, true));
    }

    private static void leastByUnits() {
        int[][] sets = new int[10][];
        for (int k = 0; k < 10; k++) {
            sets[k] = op(5, k, 11, 11, 0, 0);
        }
        int[] due = {10, 5, 4, 3};
        for (int alus = 1; alus <= 4; alus++) {
            BundleMill mill = loop(machine(alus, 1, 1, 1, 1, 1), sets);
            shape("ten by " + alus, mill, due[alus - 1], due[alus - 1]);
        }
        int[][] loads = new int[5][];
        for (int k = 0; k < 5; k++) {
            loads[k] = op(7, k, 11, 11, 0, 0);
        }
        shape("five by 1", loop(machine(4, 1, 1, 1, 1, 1), loads), 5, 5, 1);
        shape("five by 2", loop(machine(4, 2, 1, 1, 1, 1), loads), 3, 3, 1);
        shape("1 at least", loop(machine(4, 2, 1, 1, 1, 1), op(0, 0, 0, 0, 0, 0)), 1, 1, 1);
    }

    private static void leastByWays() {
        shape("a sum", loop(machine(1, 1, 5, 1, 1, 1), op(2, 1, 1, 2, 0, 0)), 5, 5, 1, 0);
        shape("a step", loop(machine(1, 1, 3, 1, 1, 1), op(1, 1, 1, 0, 1, 0)), 3, 3, 1, 0);
        shape("a guard", loop(machine(1, 1, 1, 4, 1, 1), op(4, 1, 0, 0, 1, -2)), 4, 4, 1, 0);
        shape("two in a ring", loop(machine(1, 1, 2, 3, 1, 1), op(4, 1, 2, 0, 0, 0),
                op(2, 2, 1, 0, 0, 0)), 5, 5, 1, 0, 3);
        shape("written late, then soon", loop(machine(4, 2, 1, 4, 1, 1), op(4, 1, 0, 0, 0, 0),
                op(0, 1, 0, 0, 0, 0)), 2, 2, 3, 0, 4);
        shape("two OUTs", loop(machine(1, 2, 1, 1, 1, 1), op(9, 0, 1, 0, 0, 0),
                op(9, 0, 1, 0, 0, 0)), 2, 2, 1, 0, 1);
        shape("DIV, STORE", loop(machine(1, 2, 1, 1, 8, 1), op(6, 1, 2, 3, 0, 0),
                op(8, 0, 4, 5, 0, 0)), 2, 2, 1, 0, 1);
        shape("a DIV alone", loop(machine(1, 1, 1, 1, 8, 1), op(6, 1, 2, 3, 0, 0)), 1, 1, 1, 0);
    }

    /**
     * A cell is loaded, changed and stored, in 4 + 2 + 1 cycles until it can be loaded again: by
     * the way over the address and its STEP between them in two times at the soonest.
     */
    private static void ring(String what, int offset, int[] step, int due) {
        BundleMill mill = loop(machine(4, 2, 2, 1, 1, 4), op(7, 1, 2, 0, 0, 0), step,
                op(2, 3, 1, 4, 0, 0), op(8, 0, 2, 3, offset, 0));
        CHECKS.same(what + ": MII", mill.shape(0, 2), due);
    }

    private static void leastByMemory() {
        int[] one = op(1, 2, 2, 0, 1, 0);
        ring("the next time", 0, one, 7);
        ring("in two times", 1, one, 4);
        ring("in three times", 2, one, 4);
        ring("64 is 0", 64, one, 7);
        ring("-64 is 0", -64, one, 7);
        ring("the same cell never again", -1, one, 4);
        ring("backward", 0, op(1, 2, 2, 0, -1, 0), 7);
        ring("backward, two times", -1, op(1, 2, 2, 0, -1, 0), 4);
        ring("by three", 0, op(1, 2, 2, 0, 3, 0), 7);
        ring("by three, two times", 3, op(1, 2, 2, 0, 3, 0), 4);
        ring("by two", 0, op(1, 2, 2, 0, 2, 0), 7);
        ring("by two never", 1, op(1, 2, 2, 0, 2, 0), 4);
        ring("by 64", 0, op(1, 2, 2, 0, 64, 0), 7);
        ring("by 64 never", 1, op(1, 2, 2, 0, 64, 0), 4);
        ring("by the most that wraps", 1, op(1, 2, 2, 0, Integer.MAX_VALUE, 0), 4);
        ring("a guarded step", 1, op(1, 2, 2, 0, 1, 10), 7);
        ring("another step", 1, op(1, 2, 5, 0, 1, 0), 7);
        ring("a variable not written", 0, op(1, 5, 5, 0, 1, 0), 7);
        ring("another cell of it", 1, op(1, 5, 5, 0, 1, 0), 2);
        BundleMill apart = loop(machine(4, 2, 2, 1, 1, 4), op(7, 1, 2, 0, 0, 0),
                op(2, 3, 1, 4, 0, 0), op(8, 0, 6, 3, 9, 0));
        CHECKS.same("another variable", apart.shape(0, 2), 7);
        storedFirst("the same cell", 0, 7);
        storedFirst("the next time", 1, 4);
        storedFirst("never again", -1, 4);
    }

    /** What one time puts into v3 the next time stores. */
    private static void storedFirst(String what, int offset, int due) {
        BundleMill mill = loop(machine(4, 2, 2, 1, 1, 4), op(8, 0, 2, 3, offset, 0),
                op(7, 1, 2, 0, 0, 0), op(2, 3, 1, 4, 0, 0), op(1, 2, 2, 0, 1, 0));
        CHECKS.same("stored first, " + what + ": MII", mill.shape(0, 2), due);
    }

    private static void moreStages() {
        BundleMill mill = loop(machine(2, 1, 1, 3, 8, 2), op(7, 1, 0, 0, 0, 0),
                op(4, 2, 1, 1, 0, 0), op(1, 0, 0, 0, 1, 0), op(2, 3, 3, 2, 0, 0));
        shape("a sum of squares", mill, 2, 2, 3, 0, 2, 0, 5);
        CHECKS.same("first row", mill.bundle(0, 0, true), bundle(2 + 16, 3, 0, 0, 1));
        CHECKS.same("second row", mill.bundle(0, 1, true), bundle(4 + 32));
        CHECKS.refuses(Checks.INDEX, "third row", () -> mill.bundle(0, 2, true));
        CHECKS.refuses(Checks.INDEX, "row -1", () -> mill.bundle(0, -1, true));
        CHECKS.same("list row 2", mill.bundle(0, 2, false), bundle(2));
        CHECKS.same("filled", mill.filled(0), 4 / 6.0);
        CHECKS.same("bundles", mill.compile(), 2);
    }

    /** Three operations of latency 8 would stand in the stages 0, 8 and 16 with II 1. */
    private static void tooManyStages() {
        BundleMill mill = loop(machine(2, 1, 1, 8, 8, 2), op(4, 1, 0, 0, 0, 0),
                op(4, 2, 1, 1, 0, 0), op(9, 0, 2, 0, 0, 0));
        shape("stage 16", mill, 1, 2, 9, 0, 8, 16);
        BundleMill fifteen = loop(machine(2, 2, 1, 8, 8, 7), op(4, 1, 0, 0, 0, 0),
                op(7, 2, 1, 1, 0, 0), op(9, 0, 2, 0, 0, 0));
        shape("stage 15", fifteen, 1, 1, 16, 0, 8, 15);
        CHECKS.same("its row", fifteen.bundle(0, 0, true),
                bundle(1, 0, 0, 0, 2 + 16 * 8, 3 + 16 * 15));
    }

    /**
     * The priorities are 3, 1, 0. The cycles: 0, 2 and 4, which drives out the SUB; this gets 5,
     * which drives out both others; they get 1 and 6.
     */
    private static void drivenOut() {
        BundleMill mill = loop(machine(1, 1, 1, 2, 8, 1), op(4, 2, 2, 2, 0, 0),
                op(3, 3, 2, 1, 0, 0), op(4, 3, 3, 1, 0, 0));
        shape("driven out", mill, 3, 3, 3, 1, 5, 6);
    }

    /** With II 2 the three drive one another out until the 18 steps are over. */
    private static void nextInterval() {
        BundleMill mill = loop(machine(2, 1, 1, 2, 8, 2), op(1, 1, 1, 1, -1, 0),
                op(4, 1, 3, 3, 1, 0), op(3, 2, 1, 3, -1, 0));
        shape("the next interval", mill, 2, 3, 1, 0, 0, 2);
    }

    /** The first goes in the last of the 36 steps it has, the second would in one more than 30. */
    private static void lastSteps() {
        BundleMill inTime = loop(machine(1, 1, 1, 2, 8, 2), op(4, 2, 3, 2, 0, 0),
                op(7, 3, 2, 2, 0, 0), op(0, 4, 2, 3, 0, 0), op(3, 2, 3, 2, 0, 0),
                op(1, 1, 2, 3, 1, 0), op(4, 4, 3, 2, 1, 0));
        CHECKS.same("the last step", inTime.shape(0, 3), 6);
        BundleMill late = loop(machine(1, 1, 2, 3, 8, 2), op(0, 2, 3, 2, 0, 0),
                op(0, 3, 4, 4, -1, 0), op(4, 2, 2, 2, -1, 0), op(2, 1, 4, 2, 0, 0),
                op(3, 1, 1, 2, 0, 0));
        CHECKS.same("one step too many", late.shape(0, 3), 7);
    }

    /** The STORE and the LOAD drive one another out, with the 3 that is MII and L. */
    private static void noneGoes() {
        BundleMill mill = loop(machine(1, 1, 1, 1, 8, 2), op(8, 0, 3, 1, 0, 0),
                op(9, 0, 1, 0, 0, 0), op(7, 3, 1, 0, 0, 0));
        shape("none goes", mill, 3, 0, 0, -1, -1, -1);
        CHECKS.same("L", mill.shape(0, 1), 3);
        CHECKS.same("the LOAD by list", mill.place(0, 2, 3), 1);
        CHECKS.same("the OUT by list", mill.place(0, 1, 3), 2);
        CHECKS.refuses(Checks.INDEX, "no modulo rows", () -> mill.bundle(0, 0, true));
        CHECKS.same("filled", mill.filled(0), 3 / 6.0);
        CHECKS.same("bundles", mill.compile(), 3);
    }
}
