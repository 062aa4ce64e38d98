/** Promises 2 to 5: the machine, blocks, operations, and erasing. */
public final class SettingsTest extends Written {
    private static final Checks CHECKS = new Checks("SettingsTest");
    private static final int[] FAR = {MIN, -100, 100, MAX};

    public static void main(String[] args) {
        CHECKS.sentence("The machine's ALUs (1 .. 4)", () -> sizeLimits(0, 4));
        CHECKS.sentence("PORTS (1 or 2)", () -> sizeLimits(1, 2));
        CHECKS.sentence("latencies (1 .. 8): plain", () -> sizeLimits(2, 8));
        CHECKS.sentence("latencies (1 .. 8): mul", () -> sizeLimits(3, 8));
        CHECKS.sentence("latencies (1 .. 8): div", () -> sizeLimits(4, 8));
        CHECKS.sentence("latencies (1 .. 8): load", () -> sizeLimits(5, 8));
        CHECKS.sentence("machine: It must be compiled anew", SettingsTest::machineCompiles);
        blocks();
        operations();
        CHECKS.sentence("erase: No blocks any more", SettingsTest::erasing);
        CHECKS.sentence("erase: it must be compiled anew", () -> mustBeCompiled("erase",
                BundleMill::erase));
        CHECKS.end();
    }

    private static void blocks() {
        CHECKS.sentence("A new block: its number", SettingsTest::blockNumbers);
        CHECKS.sentence("with how it ends, 0 .. 3; no such end", () -> blockLimits(0, 3));
        CHECKS.sentence("v is not 0 .. 11", () -> blockLimits(1, 11));
        CHECKS.sentence("t is not 0 .. 5", () -> blockLimits(2, 5));
        CHECKS.sentence("or f not 0 .. 5", () -> blockLimits(3, 5));
        CHECKS.sentence("block: also where they don't count", SettingsTest::idleOfBlocks);
        CHECKS.sentence("IllegalStateException: there are 6", SettingsTest::sevenBlocks);
        CHECKS.sentence("block: It must be compiled anew", () -> mustBeCompiled("block",
                mill -> mill.block(0, 0, 0, 0)));
    }

    private static void operations() {
        CHECKS.sentence("An operation more for the latest block: its number",
                SettingsTest::operationNumbers);
        CHECKS.sentence("guard: 0 none, 1 + a variable that must not be 0, -1 - one that must be"
                + " 0", SettingsTest::guards);
        CHECKS.sentence("no such code", () -> operationLimits(0, 0, 9));
        CHECKS.sentence("d is not 0 .. 11", () -> operationLimits(1, 0, 11));
        CHECKS.sentence("a is not 0 .. 11", () -> operationLimits(2, 0, 11));
        CHECKS.sentence("or b is not 0 .. 11", () -> operationLimits(3, 0, 11));
        CHECKS.sentence("operation: also where it doesn't count",
                SettingsTest::idleOfOperations);
        CHECKS.sentence("any n", SettingsTest::anyNumber);
        CHECKS.sentence("guard not -12 .. 12", () -> operationLimits(5, -12, 12));
        CHECKS.sentence("IllegalStateException: there is no block", SettingsTest::noBlock);
        CHECKS.sentence("or it has 10", SettingsTest::elevenOperations);
        CHECKS.sentence("operation: It must be compiled anew", () -> mustBeCompiled("operation",
                mill -> operate(mill, set(0, 0))));
    }

    /** A change of a program that is compiled. */
    private interface Change {
        void change(BundleMill mill);
    }

    private static BundleMill compiledMill() {
        return halting(new BundleMill(), set(0, 7));
    }

    private static void mustBeCompiled(String what, Change change) {
        BundleMill mill = compiledMill();
        mill.run();
        change.change(mill);
        CHECKS.refuses(Checks.STATE, "run() behind " + what, mill::run);
        CHECKS.refuses(Checks.STATE, "shape behind " + what, () -> mill.shape(0, 0));
        CHECKS.refuses(Checks.STATE, "place behind " + what, () -> mill.place(0, 0, 0));
        CHECKS.refuses(Checks.STATE, "bundle behind " + what, () -> mill.bundle(0, 0, false));
        CHECKS.refuses(Checks.STATE, "filled behind " + what, () -> mill.filled(0));
        CHECKS.same("variable 0 of the latest run", mill.variable(0), 7);
    }

    private static void machineCompiles() {
        mustBeCompiled("machine", mill -> mill.machine(1, 1, 1, 1, 1, 1));
        mustBeCompiled("the same machine", mill -> mill.machine(2, 1, 1, 3, 8, 2));
        BundleMill mill = compiledMill();
        mill.machine(1, 1, 5, 1, 1, 1);
        CHECKS.same("compile()", mill.compile(), 5);
        CHECKS.same("filled", mill.filled(0), 1 / 10.0);
    }

    /** A machine's number k as ten operations show it: a latency, or all units but one. */
    private static int seen(BundleMill mill, int k) {
        if (k > 1) {
            return mill.place(0, k - 2, 2);
        }
        double units = 10 / (mill.filled(0) * mill.shape(0, 1));
        return (int) (units + 0.5) - 1;
    }

    private static void sizeLimits(int k, int most) {
        BundleMill mill = lay(new BundleMill(), halt(), less(1, 11, 11), mul(2, 11, 11),
                div(3, 11, 11), load(4, 11, 0), less(5, 11, 11), less(6, 11, 11),
                less(7, 11, 11), less(8, 11, 11), load(9, 11, 0), load(10, 11, 0));
        for (int size = 1; size <= most; size++) {
            int[] sizes = {1, 1, 1, 1, 1, 1};
            sizes[k] = size;
            setMachine(mill, sizes);
            mill.compile();
            CHECKS.same("number " + k, seen(mill, k), size);
        }
        String due = mill.shape(0, 1) + " " + mill.filled(0);
        for (int size : new int[] {MIN, -1, 0, most + 1, most + 2, 256 + 1, MAX}) {
            int[] sizes = {1, 1, 1, 1, 1, 1};
            sizes[k] = size;
            CHECKS.refusesDeed(Checks.ARGUMENT, "number " + k + ": " + size,
                    () -> setMachine(mill, sizes));
            CHECKS.same("still compiled", mill.shape(0, 1) + " " + mill.filled(0), due);
        }
        CHECKS.same("as it was", mill.compile(), mill.shape(0, 1));
        CHECKS.same("the machine too", mill.shape(0, 1) + " " + mill.filled(0), due);
    }

    private static void setMachine(BundleMill mill, int[] sizes) {
        mill.machine(sizes[0], sizes[1], sizes[2], sizes[3], sizes[4], sizes[5]);
    }

    private static void blockNumbers() {
        BundleMill mill = new BundleMill();
        for (int x = 0; x < 6; x++) {
            CHECKS.same("block " + x, mill.block(x % 4, 11 - x, x, 5 - x), x);
        }
        mill.compile();
        for (int x = 0; x < 6; x++) {
            CHECKS.same("end of " + x, mill.shape(x, 5), x % 4);
            CHECKS.same("t of " + x, mill.shape(x, 6), x);
        }
    }

    private static void blockLimits(int k, int most) {
        for (int end = 0; end < 4; end++) {
            int[] block = {end, 0, 0, 0};
            for (int wrong : new int[] {-1, most + 1, MIN, MAX}) {
                block[k] = wrong;
                BundleMill mill = compiledMill();
                CHECKS.refuses(Checks.ARGUMENT, "number " + k + ": " + wrong,
                        () -> mill.block(block[0], block[1], block[2], block[3]));
                CHECKS.same("still compiled", mill.run(), 2);
                CHECKS.same("no block has come", mill.block(0, 0, 0, 0), 1);
            }
            block[k] = most;
            BundleMill mill = compiledMill();
            CHECKS.same("the most", mill.block(block[0], block[1], block[2], block[3]), 1);
            block[k] = 0;
            CHECKS.same("the least", mill.block(block[0], block[1], block[2], block[3]), 2);
        }
    }

    private static void idleOfBlocks() {
        int[][] wrong = {{0, 12, 0, 0}, {0, -1, 0, 0}, {0, 0, 6, 0}, {0, 0, -1, 0}, {0, 0, 0, 6},
            {0, 0, 0, -1}, {1, 12, 0, 0}, {1, -1, 0, 0}, {1, 0, 0, 6}, {1, 0, 0, -1},
            {3, 0, 0, 6}, {3, 0, 0, -1}};
        for (int[] block : wrong) {
            CHECKS.refuses(Checks.ARGUMENT, "end " + block[0], () -> new BundleMill().block(
                    block[0], block[1], block[2], block[3]));
        }
    }

    private static void idleOfOperations() {
        boolean[] d = {true, true, true, true, true, true, true, true, false, false};
        boolean[] a = {false, true, true, true, true, true, true, true, true, true};
        boolean[] b = {false, false, true, true, true, true, true, false, true, false};
        for (int code = 0; code < 10; code++) {
            for (int wrong : new int[] {-1, 12}) {
                BundleMill mill = lay(new BundleMill(), halt());
                for (int k = 1; k < 4; k++) {
                    int[] op = {code, 1, 1, 1, 0, 0};
                    op[k] = wrong;
                    boolean counts = k == 1 ? d[code] : k == 2 ? a[code] : b[code];
                    CHECKS.refuses(Checks.ARGUMENT, "number " + k + " of code " + code
                            + (counts ? "" : ", which doesn't count"), () -> operate(mill, op));
                }
                CHECKS.same("no operation has come", operate(mill, set(0, 0)), 0);
            }
        }
    }

    private static void sevenBlocks() {
        BundleMill mill = new BundleMill();
        for (int x = 0; x < 6; x++) {
            mill.block(0, 0, 0, 0);
        }
        mill.compile();
        CHECKS.refuses(Checks.STATE, "a seventh", () -> mill.block(0, 0, 0, 0));
        CHECKS.refuses(Checks.STATE, "a seventh once more", () -> mill.block(1, 0, 5, 0));
        CHECKS.refuses(Checks.ARGUMENT, "a wrong seventh", () -> mill.block(4, 0, 0, 0));
        CHECKS.same("still compiled", mill.run(), 1);
        CHECKS.same("the sixth is the latest", operate(mill, set(0, 0)), 0);
        mill.compile();
        CHECKS.same("it got the operation", mill.shape(5, 0), 1);
        mill.erase();
        CHECKS.same("behind erase there are none", mill.block(0, 0, 0, 0), 0);
    }

    private static void operationNumbers() {
        BundleMill mill = lay(new BundleMill(), jump(1));
        CHECKS.same("first", operate(mill, set(0, 1)), 0);
        CHECKS.same("second", operate(mill, set(1, 1)), 1);
        lay(mill, halt());
        CHECKS.same("first of the latest block", operate(mill, mul(2, 0, 1)), 0);
        mill.compile();
        CHECKS.same("operations of 0", mill.shape(0, 0), 2);
        CHECKS.same("operations of 1", mill.shape(1, 0), 1);
        CHECKS.same("code", mill.place(1, 0, 0), 4);
        CHECKS.same("third of the latest block", operate(mill, out(2)), 1);
        mill.compile();
        mill.run();
        CHECKS.same("the code, d, a and b that were told", mill.output(0), 1);
    }

    private static void guards() {
        for (int guard = -12; guard <= 12; guard++) {
            BundleMill mill = halting(new BundleMill(), guarded(guard, out(0)));
            CHECKS.same("guard " + guard, mill.place(0, 0, 1), guard);
            mill.run();
            CHECKS.same("done with all variables 0", mill.result(0), guard <= 0 ? 1 : 0);
            if (guard != 0) {
                int v = guard > 0 ? guard - 1 : -1 - guard;
                BundleMill other = halting(new BundleMill(), set(v, 5), guarded(guard, out(v)));
                other.run();
                CHECKS.same("done with its variable 5", other.result(0), guard > 0 ? 1 : 0);
            }
        }
    }

    private static void operationLimits(int k, int least, int most) {
        for (int code = 0; code < 10; code++) {
            int[] op = {code, 0, 0, 0, 0, 0};
            BundleMill mill = compiledMill();
            for (int wrong : new int[] {least - 1, most + 1, MIN, MAX}) {
                op[k] = wrong;
                CHECKS.refuses(Checks.ARGUMENT, "number " + k + ": " + wrong,
                        () -> operate(mill, op));
            }
            CHECKS.same("still compiled", mill.run(), 2);
            op[k] = most;
            CHECKS.same("the most", operate(mill, op), 1);
            op[k] = least;
            CHECKS.same("the least", operate(mill, op), 2);
        }
    }

    private static void anyNumber() {
        for (int n : FAR) {
            BundleMill mill = halting(new BundleMill(), set(1, n), step(2, 2, n));
            mill.run();
            CHECKS.same("SET " + n, mill.variable(1), n);
            CHECKS.same("STEP " + n, mill.variable(2), n);
        }
    }

    private static void noBlock() {
        BundleMill mill = new BundleMill();
        CHECKS.refuses(Checks.STATE, "a new object", () -> operate(mill, set(0, 0)));
        CHECKS.refuses(Checks.ARGUMENT, "a wrong one", () -> operate(mill, set(12, 0)));
        mill.block(0, 0, 0, 0);
        CHECKS.same("with a block", operate(mill, set(0, 0)), 0);
        mill.erase();
        CHECKS.refuses(Checks.STATE, "behind erase", () -> operate(mill, set(0, 0)));
        CHECKS.refuses(Checks.ARGUMENT, "a wrong one", () -> operate(mill, set(-1, 0)));
    }

    private static void elevenOperations() {
        BundleMill mill = lay(new BundleMill(), jump(1), times(10, step(0, 0, 1)));
        CHECKS.refuses(Checks.STATE, "an eleventh", () -> operate(mill, set(0, 0)));
        CHECKS.refuses(Checks.ARGUMENT, "a wrong eleventh",
                () -> operate(mill, op(10, 0, 0, 0, 0, 0)));
        lay(mill, halt(), times(10, step(0, 0, 1)));
        CHECKS.refuses(Checks.STATE, "an eleventh of another", () -> operate(mill, set(0, 0)));
        mill.compile();
        CHECKS.refuses(Checks.STATE, "an eleventh of what is compiled",
                () -> operate(mill, set(0, 0)));
        mill.run();
        CHECKS.same("still compiled, twenty were done", mill.variable(0), 20);
    }

    private static void erasing() {
        BundleMill mill = halting(new BundleMill(), set(0, 7), out(0));
        mill.run();
        mill.poke(5, 55);
        mill.erase();
        CHECKS.refuses(Checks.STATE, "compile() behind erase", mill::compile);
        mill.erase();
        CHECKS.refuses(Checks.STATE, "compile() behind two", mill::compile);
        CHECKS.same("the latest run still tells", mill.output(0), 7);
        CHECKS.same("memory stays", mill.peek(5), 55);
        CHECKS.same("numbers begin anew", mill.block(0, 0, 0, 0), 0);
        CHECKS.same("compile()", mill.compile(), 0);
        CHECKS.same("no operation is left", mill.shape(0, 0), 0);
        CHECKS.refuses(Checks.ELEMENT, "no second block", () -> mill.shape(1, 0));
        BundleMill slow = machine(4, 2, 8, 8, 8, 8);
        slow.erase();
        CHECKS.same("the machine stays", halting(slow, set(0, 0)).shape(0, 1), 8);
    }
}
