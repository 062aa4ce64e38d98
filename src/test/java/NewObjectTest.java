/** Promise 1: a new object. */
public final class NewObjectTest {
    public static void main(String[] args) {
        Checks checks = new Checks("NewObjectTest");
        BundleMill mill = new BundleMill();
        checks.refuses(Checks.STATE, "compile()", mill::compile);
        checks.refuses(Checks.STATE, "run()", mill::run);
        checks.refuses(Checks.STATE, "shape(0, 0)", () -> mill.shape(0, 0));
        checks.refuses(Checks.STATE, "place(0, 0, 0)", () -> mill.place(0, 0, 0));
        checks.refuses(Checks.STATE, "bundle(0, 0, false)", () -> mill.bundle(0, 0, false));
        checks.refuses(Checks.STATE, "filled(0)", () -> mill.filled(0));
        checks.refuses(Checks.STATE, "operation(0, 0, 0, 0, 0, 0)",
                () -> mill.operation(0, 0, 0, 0, 0, 0));
        for (int address = 0; address < 64; address++) {
            checks.same("peek(" + address + ")", mill.peek(address), 0);
        }
        checks.same("NONE", BundleMill.NONE, -1);
        unitsAndLatencies(checks);
        checks.end();
    }

    private static void unitsAndLatencies(Checks checks) {
        BundleMill mill = new BundleMill();
        checks.same("first block", mill.block(0, 0, 0, 0), 0);
        int[] codes = {0, 1, 2, 3, 4, 5, 6, 7, 8, 9};
        int[] latencies = {1, 1, 1, 1, 3, 1, 8, 2, 1, 1};
        for (int k = 0; k < codes.length; k++) {
            BundleMill one = new BundleMill();
            one.block(0, 0, 0, 0);
            one.operation(codes[k], 0, 1, 2, 0, 0);
            one.compile();
            checks.same("height of code " + codes[k], one.place(0, 0, 2), latencies[k]);
        }
        mill.operation(0, 0, 0, 0, 0, 0);
        mill.operation(0, 1, 0, 0, 0, 0);
        mill.operation(0, 2, 0, 0, 0, 0);
        mill.operation(7, 3, 5, 0, 0, 0);
        mill.operation(7, 4, 5, 0, 0, 0);
        mill.compile();
        checks.same("second of 2 ALUs", mill.place(0, 1, 3), 0);
        checks.same("third SET waits", mill.place(0, 2, 3), 1);
        checks.same("second LOAD waits for the PORT", mill.place(0, 4, 3), 1);
        checks.same("filled", mill.filled(0), 5 / (3.0 * 3));
    }
}
