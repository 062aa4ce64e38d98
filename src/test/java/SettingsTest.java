/** Promises 2 to 5: the machine, blocks, operations, and erasing. */
public final class SettingsTest {
    private static final Checks CHECKS = new Checks("SettingsTest");

    public static void main(String[] args) {
        machineLimits();
        machineCounts();
        blockLimits();
        blockCounts();
        operationLimits();
        operationCounts();
        erasing();
        CHECKS.end();
    }

    private static void machineLimits() {
        int[] most = {4, 2, 8, 8, 8, 8};
        for (int k = 0; k < most.length; k++) {
            for (int size : new int[] {Integer.MIN_VALUE, -1, 0, most[k] + 1, Integer.MAX_VALUE}) {
                int[] sizes = {1, 1, 1, 1, 1, 1};
                sizes[k] = size;
                BundleMill mill = compiledMill();
                CHECKS.refusesDeed(Checks.ARGUMENT, "machine, number " + k + ": " + size,
                        () -> setMachine(mill, sizes));
                CHECKS.same("still compiled with 3 units", mill.filled(0), 1 / 3.0);
            }
            int[] sizes = {1, 1, 1, 1, 1, 1};
            sizes[k] = most[k];
            BundleMill mill = compiledMill();
            setMachine(mill, sizes);
            CHECKS.refuses(Checks.STATE, "shape behind machine", () -> mill.shape(0, 0));
        }
    }

    private static void setMachine(BundleMill mill, int[] sizes) {
        mill.machine(sizes[0], sizes[1], sizes[2], sizes[3], sizes[4], sizes[5]);
    }

    private static BundleMill compiledMill() {
        BundleMill mill = new BundleMill();
        mill.block(0, 0, 0, 0);
        mill.operation(0, 0, 0, 0, 7, 0);
        mill.compile();
        return mill;
    }

    private static void machineCounts() {
        BundleMill mill = new BundleMill();
        mill.machine(3, 2, 4, 5, 6, 7);
        mill.block(0, 0, 0, 0);
        for (int code = 0; code < 10; code++) {
            mill.operation(code, code, 11, 11, 0, 0);
        }
        mill.compile();
        CHECKS.same("three ALUs: SET", mill.place(0, 0, 2), 4);
        CHECKS.same("MUL", mill.place(0, 4, 2), 5);
        CHECKS.same("LOAD", mill.place(0, 7, 2), 7);
        CHECKS.same("STORE", mill.place(0, 8, 2), 1);
        CHECKS.same("OUT", mill.place(0, 9, 2), 1);
        CHECKS.same("filled", mill.filled(0), 10 / (mill.shape(0, 1) * 5.0));
        BundleMill again = compiledMill();
        again.machine(2, 1, 1, 3, 8, 2);
        CHECKS.refuses(Checks.STATE, "run() behind machine", again::run);
        CHECKS.refuses(Checks.STATE, "bundle behind machine", () -> again.bundle(0, 0, false));
        CHECKS.refuses(Checks.STATE, "filled behind machine", () -> again.filled(0));
        CHECKS.refuses(Checks.STATE, "place behind machine", () -> again.place(0, 0, 0));
        CHECKS.same("compile()", again.compile(), 1);
    }

    private static void blockLimits() {
        int[][] wrong = {{-1, 0, 0, 0}, {4, 0, 0, 0}, {0, -1, 0, 0}, {0, 12, 0, 0}, {0, 0, -1, 0},
            {0, 0, 6, 0}, {0, 0, 0, -1}, {0, 0, 0, 6}, {1, 0, 0, 6}, {3, 0, 0, -1}, {1, 12, 0, 0},
            {Integer.MAX_VALUE, 0, 0, 0}, {0, Integer.MIN_VALUE, 0, 0}};
        BundleMill mill = compiledMill();
        for (int[] row : wrong) {
            CHECKS.refuses(Checks.ARGUMENT, "a wrong block",
                    () -> mill.block(row[0], row[1], row[2], row[3]));
        }
        CHECKS.same("still compiled", mill.run(), 2);
        CHECKS.same("no block has come", mill.block(3, 11, 5, 5), 1);
        CHECKS.refuses(Checks.STATE, "run() behind block", mill::run);
    }

    private static void blockCounts() {
        BundleMill mill = new BundleMill();
        for (int x = 0; x < 6; x++) {
            CHECKS.same("block " + x, mill.block(x % 4, 0, x, 0), x);
        }
        CHECKS.same("six empty blocks", mill.compile(), 0);
        CHECKS.refuses(Checks.STATE, "a seventh block", () -> mill.block(0, 0, 0, 0));
        CHECKS.refuses(Checks.ARGUMENT, "a wrong seventh block", () -> mill.block(4, 0, 0, 0));
        CHECKS.same("still compiled", mill.run(), 1);
        CHECKS.same("the latest block's end", mill.shape(5, 5), 1);
        CHECKS.same("the latest block's t", mill.shape(5, 6), 5);
        CHECKS.same("a HALT's t as told", mill.shape(4, 6), 4);
    }

    private static void operationLimits() {
        int[][] wrong = {{-1, 0, 0, 0, 0}, {10, 0, 0, 0, 0}, {0, -1, 0, 0, 0}, {0, 12, 0, 0, 0},
            {0, 0, -1, 0, 0}, {0, 0, 12, 0, 0}, {0, 0, 0, -1, 0}, {0, 0, 0, 12, 0},
            {0, 0, 0, 0, 13}, {0, 0, 0, 0, -13}, {9, 12, 0, 0, 0}, {8, -1, 0, 0, 0},
            {0, 0, 0, 0, Integer.MIN_VALUE}, {Integer.MAX_VALUE, 0, 0, 0, 0}};
        BundleMill mill = compiledMill();
        for (int[] row : wrong) {
            CHECKS.refuses(Checks.ARGUMENT, "a wrong operation",
                    () -> mill.operation(row[0], row[1], row[2], row[3], 0, row[4]));
        }
        CHECKS.same("still compiled", mill.shape(0, 0), 1);
        CHECKS.same("guard 12", mill.operation(9, 11, 11, 11, Integer.MIN_VALUE, 12), 1);
        CHECKS.same("guard -12", mill.operation(0, 0, 0, 0, Integer.MAX_VALUE, -12), 2);
        CHECKS.refuses(Checks.STATE, "run() behind operation", mill::run);
        mill.compile();
        CHECKS.same("guard kept", mill.place(0, 1, 1), 12);
        CHECKS.same("other guard kept", mill.place(0, 2, 1), -12);
    }

    private static void operationCounts() {
        BundleMill mill = new BundleMill();
        CHECKS.refuses(Checks.STATE, "no block", () -> mill.operation(0, 0, 0, 0, 0, 0));
        CHECKS.refuses(Checks.ARGUMENT, "no block, wrong", () -> mill.operation(10, 0, 0, 0, 0, 0));
        mill.block(1, 0, 1, 0);
        for (int k = 0; k < 10; k++) {
            CHECKS.same("operation " + k, mill.operation(9, 0, 0, 0, 0, 0), k);
        }
        CHECKS.refuses(Checks.STATE, "an eleventh", () -> mill.operation(0, 0, 0, 0, 0, 0));
        CHECKS.refuses(Checks.ARGUMENT, "a wrong eleventh",
                () -> mill.operation(0, 0, 0, 0, 0, 13));
        mill.block(0, 0, 0, 0);
        CHECKS.same("of the latest block", mill.operation(0, 0, 0, 0, 0, 0), 0);
        CHECKS.same("compile()", mill.compile(), 11);
        CHECKS.same("operations of block 0", mill.shape(0, 0), 10);
        CHECKS.same("operations of block 1", mill.shape(1, 0), 1);
    }

    private static void erasing() {
        BundleMill mill = compiledMill();
        mill.operation(9, 0, 0, 0, 0, 0);
        mill.compile();
        mill.run();
        mill.poke(5, 55);
        mill.erase();
        CHECKS.refuses(Checks.STATE, "run() behind erase", mill::run);
        CHECKS.refuses(Checks.STATE, "shape behind erase", () -> mill.shape(0, 0));
        CHECKS.refuses(Checks.STATE, "compile() behind erase", mill::compile);
        CHECKS.refuses(Checks.STATE, "operation behind erase",
                () -> mill.operation(0, 0, 0, 0, 0, 0));
        CHECKS.same("the latest run still tells", mill.output(0), 7);
        CHECKS.same("its variables too", mill.variable(0), 7);
        CHECKS.same("its turns too", mill.result(2), 1);
        CHECKS.same("memory stays", mill.peek(5), 55);
        CHECKS.same("numbers begin anew", mill.block(0, 0, 0, 0), 0);
        CHECKS.same("compile()", mill.compile(), 0);
        CHECKS.same("no operation is left", mill.shape(0, 0), 0);
    }
}
