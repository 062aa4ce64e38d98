/** Promise 1: a new object. */
public final class NewObjectTest extends Written {
    private static final Checks CHECKS = new Checks("NewObjectTest");

    public static void main(String[] args) {
        CHECKS.sentence("No blocks", NewObjectTest::noBlocks);
        CHECKS.sentence("memory 0", NewObjectTest::memory);
        CHECKS.sentence("2 ALUs", NewObjectTest::alus);
        CHECKS.sentence("1 PORT", NewObjectTest::ports);
        CHECKS.sentence("latencies 1 (plain), 3 (MUL), 8 (DIV), 2 (LOAD)",
                NewObjectTest::latencies);
        CHECKS.sentence("NONE = -1", () -> CHECKS.same("NONE", BundleMill.NONE, -1));
        CHECKS.sentence("one object knows nothing of another", NewObjectTest::severalObjects);
        CHECKS.end();
    }

    private static void noBlocks() {
        BundleMill mill = new BundleMill();
        CHECKS.refuses(Checks.STATE, "compile()", mill::compile);
        CHECKS.refuses(Checks.STATE, "run()", mill::run);
        CHECKS.refuses(Checks.STATE, "shape(0, 0)", () -> mill.shape(0, 0));
        CHECKS.refuses(Checks.STATE, "place(0, 0, 0)", () -> mill.place(0, 0, 0));
        CHECKS.refuses(Checks.STATE, "bundle(0, 0, false)", () -> mill.bundle(0, 0, false));
        CHECKS.refuses(Checks.STATE, "filled(0)", () -> mill.filled(0));
        CHECKS.refuses(Checks.STATE, "operation", () -> operate(mill, set(0, 0)));
        CHECKS.same("the first block", mill.block(0, 0, 0, 0), 0);
        CHECKS.same("its first operation", operate(mill, set(0, 0)), 0);
    }

    private static void memory() {
        BundleMill mill = new BundleMill();
        for (int address = 0; address < 64; address++) {
            CHECKS.same("peek(" + address + ")", mill.peek(address), 0);
        }
    }

    private static void alus() {
        BundleMill mill = halting(new BundleMill(), set(0, 0), set(1, 0), set(2, 0));
        CHECKS.same("the second SET", mill.place(0, 1, 3), 0);
        CHECKS.same("the third waits", mill.place(0, 2, 3), 1);
        CHECKS.same("three of two rows of three units", mill.filled(0), 0.5);
    }

    private static void ports() {
        BundleMill mill = halting(new BundleMill(), load(0, 9, 0), load(1, 9, 0));
        CHECKS.same("the first LOAD", mill.place(0, 0, 3), 0);
        CHECKS.same("the second waits", mill.place(0, 1, 3), 1);
    }

    private static void latencies() {
        int[] due = {1, 1, 1, 1, 3, 1, 8, 2, 1, 1};
        for (int code = 0; code < due.length; code++) {
            BundleMill mill = halting(new BundleMill(), op(code, 0, 1, 2, 0, 0));
            CHECKS.same("code " + code, mill.place(0, 0, 2), due[code]);
            CHECKS.same("L of code " + code, mill.shape(0, 1), due[code]);
        }
    }

    private static void severalObjects() {
        BundleMill one = new BundleMill();
        BundleMill other = new BundleMill();
        one.poke(3, 33);
        one.machine(1, 1, 5, 1, 1, 1);
        halting(one, out(0)).run();
        CHECKS.same("memory", other.peek(3), 0);
        CHECKS.same("outputs", other.result(0), 0);
        CHECKS.refuses(Checks.STATE, "blocks", other::compile);
        CHECKS.same("latencies", halting(other, set(0, 0)).shape(0, 1), 1);
    }
}
