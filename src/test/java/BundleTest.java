/** Terms, BUNDLES, and promise 15: bundle. */
public final class BundleTest extends Written {
    private static final Checks CHECKS = new Checks("BundleTest");

    public static void main(String[] args) {
        CHECKS.sentence("a row of a list schedule (rows 0 to L - 1, the cycles)",
                BundleTest::listRows);
        CHECKS.sentence("or of a modulo schedule (II rows)", BundleTest::moduloRows);
        CHECKS.sentence("SLOT k has the bits 8 * k to 8 * k + 7", BundleTest::slots);
        CHECKS.sentence("slots 0 .. 3 are for ALUs, 4 and 5 for PORTS", BundleTest::alusAndPorts);
        CHECKS.sentence("it is 0, or an operation's number plus 1", BundleTest::numbers);
        CHECKS.sentence("plus 16 times its stage", BundleTest::stages);
        CHECKS.sentence("0 in a list schedule", BundleTest::noStages);
        CHECKS.sentence("fill the slots from the first one on by rising numbers",
                BundleTest::rising);
        CHECKS.sentence("bundle: it must be compiled", BundleTest::mustBeCompiled);
        CHECKS.sentence("bundle: there is no such block, or it is gone", BundleTest::noBlock);
        CHECKS.sentence("bundle: no such row", BundleTest::noRow);
        CHECKS.sentence("also where there is no modulo schedule", BundleTest::noSchedule);
        CHECKS.end();
    }

    private static void rows(String what, BundleMill mill, int block, boolean modulo,
            long... due) {
        for (int row = 0; row < due.length; row++) {
            CHECKS.same(what + ": row " + row, mill.bundle(block, row, modulo), due[row]);
        }
        for (int row : new int[] {-1, due.length, MIN, MAX}) {
            CHECKS.refuses(Checks.INDEX, what + ": row " + row,
                    () -> mill.bundle(block, row, modulo));
        }
    }

    private static void listRows() {
        rows("one", halting(new BundleMill(), set(1, 0)), 0, false, 1);
        rows("rows without operations", halting(new BundleMill(), mul(1, 2, 2), out(1)), 0, false,
                bundle(1), 0, 0, bundle(0, 0, 0, 0, 2));
        rows("rows behind the last operation", halting(machine(1, 1, 8, 8, 8, 8), set(1, 0)), 0,
                false, 1, 0, 0, 0, 0, 0, 0, 0);
        rows("a LOOP's list schedule", looping(new BundleMill(), mul(1, 2, 2)), 0, false, 1, 0,
                0);
        BundleMill longest = halting(machine(1, 1, 8, 8, 8, 8), times(10, mul(1, 1, 1)));
        CHECKS.same("the first of 80", longest.bundle(0, 0, false), 1);
        CHECKS.same("the tenth operation", longest.bundle(0, 72, false), 10);
        CHECKS.same("the last of 80", longest.bundle(0, 79, false), 0);
        CHECKS.refuses(Checks.INDEX, "one more", () -> longest.bundle(0, 80, false));
    }

    private static void moduloRows() {
        rows("one", looping(new BundleMill(), mul(1, 2, 2)), 0, true, 1);
        rows("two", looping(new BundleMill(), load(1, 0, 0), mul(2, 1, 1), step(0, 0, 1),
                add(3, 3, 2)), 0, true, bundle(2 + 16, 3, 0, 0, 1), bundle(4 + 32));
        rows("three, one of them empty", looping(machine(1, 1, 3, 1, 1, 1), step(1, 1, 1),
                out(2)), 0, true, bundle(1, 0, 0, 0, 2), 0, 0);
    }

    /** A chain whose last one is in stage 8, so that the highest bit of its slot is 1. */
    private static void slots() {
        int[][] ops = {mul(1, 9, 9), set(2, 0), set(3, 0), mul(4, 1, 1)};
        rows("slot 3 of stage 8", looping(machine(4, 2, 1, 8, 8, 8), ops), 0, true,
                bundle(1, 2, 3, 4 + 16 * 8));
        int[][] first = {step(4, 1, 0), set(2, 0), set(3, 0), mul(1, 9, 9)};
        rows("slot 0 of stage 7", looping(machine(4, 2, 1, 8, 8, 8), first), 0, true,
                bundle(1 + 16 * 7, 2, 3, 4));
        rows("slot 5 of stage 15", looping(machine(2, 2, 1, 8, 8, 7), mul(1, 3, 3), load(2, 1, 1),
                out(2)), 0, true, bundle(1, 0, 0, 0, 2 + 16 * 8, 3 + 16 * 15));
        long all = bundle(1, 2, 3, 4, 5, 6);
        CHECKS.same("six slots", halting(machine(4, 2, 1, 1, 1, 1), set(1, 0), set(2, 0),
                set(3, 0), set(4, 0), load(5, 9, 0), load(6, 9, 0)).bundle(0, 0, false), all);
        CHECKS.same("as one long", all, 0x060504030201L);
    }

    private static void alusAndPorts() {
        for (int code = 0; code < 10; code++) {
            CHECKS.same("code " + code, halting(machine(4, 2, 1, 1, 1, 1),
                    op(code, 1, 2, 3, 0, 0)).bundle(0, 0, false), code < 7 ? 1L : 1L << 32);
        }
        rows("PORTS alone", halting(machine(4, 2, 1, 1, 1, 1), load(1, 9, 0), load(2, 9, 0),
                load(3, 9, 0)), 0, false, bundle(0, 0, 0, 0, 1, 2), bundle(0, 0, 0, 0, 3));
    }

    private static void numbers() {
        BundleMill mill = lay(machine(1, 1, 1, 1, 1, 1), halt());
        for (int k = 0; k < 10; k++) {
            operate(mill, less(k, 11, 11));
        }
        mill.compile();
        rows("ten", mill, 0, false, 1, 2, 3, 4, 5, 6, 7, 8, 9, 10);
        rows("empty slots", halting(machine(4, 2, 1, 1, 1, 1), mul(1, 9, 9), load(2, 9, 0)), 0,
                false, bundle(1, 0, 0, 0, 2, 0));
    }

    private static void stages() {
        for (int latency = 1; latency <= 8; latency++) {
            rows("latency " + latency, looping(machine(4, 2, 1, latency, 1, 1), mul(1, 2, 2),
                    out(1)), 0, true, bundle(1, 0, 0, 0, 2 + 16 * latency));
        }
        rows("the second row of stage 2", looping(machine(1, 1, 1, 5, 1, 1), mul(1, 2, 2),
                out(1), load(3, 9, 0)), 0, true, bundle(1, 0, 0, 0, 3),
                bundle(0, 0, 0, 0, 2 + 16 * 2));
    }

    private static void noStages() {
        BundleMill mill = looping(machine(4, 2, 1, 8, 1, 1), mul(1, 2, 2), out(1));
        CHECKS.same("by modulo", mill.bundle(0, 0, true), bundle(1, 0, 0, 0, 2 + 16 * 8));
        CHECKS.same("by list", mill.bundle(0, 8, false), bundle(0, 0, 0, 0, 2));
    }

    private static void rising() {
        rows("by numbers, not by heights", halting(machine(4, 2, 1, 3, 3, 1), set(1, 0),
                mul(2, 9, 9), set(3, 0), div(4, 9, 9)), 0, false, bundle(1, 2, 3, 4), 0, 0);
        rows("a gap is none", halting(machine(2, 2, 1, 1, 1, 1), set(1, 0), load(2, 9, 0),
                set(3, 0), load(4, 9, 0), set(5, 0)), 0, false, bundle(1, 3, 0, 0, 2, 4),
                bundle(5));
        rows("of several stages", looping(machine(3, 1, 1, 4, 1, 1), step(1, 2, 0), set(3, 0),
                mul(2, 9, 9)), 0, true, bundle(1 + 16 * 3, 2, 3));
    }

    private static void mustBeCompiled() {
        BundleMill mill = halting(new BundleMill(), set(1, 0));
        CHECKS.same("compiled", mill.bundle(0, 0, false), 1);
        mill.machine(1, 1, 1, 1, 1, 1);
        CHECKS.refuses(Checks.STATE, "behind machine", () -> mill.bundle(0, 0, false));
        CHECKS.refuses(Checks.STATE, "no such block", () -> mill.bundle(1, 0, false));
        CHECKS.refuses(Checks.STATE, "no such row", () -> mill.bundle(0, 9, true));
    }

    private static void noBlock() {
        BundleMill mill = lay(new BundleMill(), branch(0, 1, 2));
        lay(mill, jump(2), set(1, 0));
        halting(mill, set(1, 0));
        for (boolean modulo : new boolean[] {false, true}) {
            for (int block : new int[] {-1, 1, 3, 6, MIN, MAX}) {
                CHECKS.refuses(Checks.ELEMENT, "block " + block,
                        () -> mill.bundle(block, 0, modulo));
                CHECKS.refuses(Checks.ELEMENT, "no row of " + block,
                        () -> mill.bundle(block, -1, modulo));
            }
        }
        CHECKS.same("the one behind it", mill.bundle(2, 0, false), 1);
    }

    private static void noRow() {
        rows("of a list", halting(new BundleMill(), mul(1, 2, 2)), 0, false, 1, 0, 0);
        rows("of none", halting(new BundleMill()), 0, false);
        rows("of II", looping(new BundleMill(), mul(1, 1, 1)), 0, true, 1, 0, 0);
        BundleMill less = looping(new BundleMill(), mul(1, 2, 2));
        CHECKS.same("L is 3", less.bundle(0, 2, false), 0);
        CHECKS.refuses(Checks.INDEX, "II is 1", () -> less.bundle(0, 1, true));
    }

    private static void noSchedule() {
        rows("a HALT", halting(new BundleMill(), set(1, 0)), 0, true);
        rows("a LOOP without operations", looping(new BundleMill()), 0, true);
        rows("a LOOP for which none goes", looping(machine(1, 1, 1, 1, 8, 2), store(3, 0, 1),
                out(1), load(3, 1, 0)), 0, true);
    }
}
