/** Promise 8: compile. */
public final class CompileTest {
    private static final Checks CHECKS = new Checks("CompileTest");

    public static void main(String[] args) {
        missingBlocks();
        writtenCounts();
        firstTold();
        bundles();
        CHECKS.end();
    }

    /** A first block, then as many HALTs. */
    private static BundleMill mill(int end, int v, int t, int f, int halts) {
        BundleMill mill = new BundleMill();
        mill.block(end, v, t, f);
        for (int k = 0; k < halts; k++) {
            mill.block(0, 0, 5, 5);
        }
        return mill;
    }

    private static void missingBlocks() {
        CHECKS.same("HALT", mill(0, 0, 5, 5, 0).compile(), 0);
        CHECKS.refuses(Checks.INDEX, "JUMP", mill(1, 0, 2, 0, 1)::compile);
        CHECKS.same("JUMP's f", mill(1, 0, 1, 5, 1).compile(), 0);
        CHECKS.refuses(Checks.INDEX, "BRANCH's t", mill(2, 0, 2, 0, 1)::compile);
        CHECKS.refuses(Checks.INDEX, "BRANCH's f", mill(2, 0, 0, 2, 1)::compile);
        CHECKS.same("BRANCH", mill(2, 0, 1, 2, 2).compile(), 0);
        CHECKS.refuses(Checks.INDEX, "LOOP", mill(3, 0, 2, 0, 1)::compile);
        CHECKS.same("LOOP's f", mill(3, 0, 1, 5, 1).compile(), 0);
        BundleMill mill = mill(0, 0, 0, 0, 3);
        mill.block(1, 0, 5, 0);
        CHECKS.refuses(Checks.INDEX, "a block that nothing comes to", mill::compile);
        CHECKS.refuses(Checks.STATE, "run() behind it", mill::run);
        mill.block(0, 0, 0, 0);
        CHECKS.same("when the block has come", mill.compile(), 0);
    }

    private static void writtenCounts() {
        for (int code = 0; code < 10; code++) {
            BundleMill mill = mill(0, 0, 0, 0, 0);
            mill.block(3, 4, 0, 0);
            mill.operation(code, 4, 0, 0, 0, 1);
            if (code < 8) {
                CHECKS.refuses(Checks.ARGUMENT, "code " + code + " writes v", mill::compile);
                CHECKS.refuses(Checks.STATE, "shape behind it", () -> mill.shape(0, 0));
            } else {
                CHECKS.same("code " + code, mill.compile(), 1);
            }
        }
        BundleMill mill = mill(2, 4, 0, 1, 1);
        mill.operation(0, 4, 0, 0, 0, 0);
        CHECKS.same("other ends than LOOP", mill.compile(), 1);
    }

    private static void firstTold() {
        BundleMill mill = mill(3, 0, 0, 0, 0);
        mill.operation(0, 0, 0, 0, 0, 0);
        CHECKS.refuses(Checks.ARGUMENT, "a LOOP that writes v", mill::compile);
        mill.block(1, 0, 2, 0);
        CHECKS.refuses(Checks.INDEX, "a missing block behind it", mill::compile);
        mill.erase();
        CHECKS.refuses(Checks.STATE, "no block", mill::compile);
    }

    private static void bundles() {
        BundleMill mill = new BundleMill();
        mill.block(1, 0, 1, 0);
        mill.operation(4, 1, 0, 0, 0, 0);
        mill.block(3, 0, 2, 0);
        for (int k = 1; k <= 3; k++) {
            mill.operation(4, k, 11, 11, 0, 0);
        }
        mill.block(3, 0, 3, 0);
        mill.block(0, 0, 0, 0);
        mill.operation(6, 0, 0, 0, 0, 0);
        CHECKS.same("3 + 2 rows of the LOOP + 0 + 8", mill.compile(), 13);
        CHECKS.same("L of the LOOP", mill.shape(1, 1), 4);
        CHECKS.same("II of the LOOP", mill.shape(1, 3), 2);
        CHECKS.same("once more", mill.compile(), 13);
    }
}
