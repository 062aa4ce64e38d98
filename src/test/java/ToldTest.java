/** Promises 10 to 12: result, output and variable. */
public final class ToldTest {
    private static final Checks CHECKS = new Checks("ToldTest");

    public static void main(String[] args) {
        BundleMill mill = new BundleMill();
        told("before any run", mill, 0, 0, 0);
        manyOutputs(mill);
        trapped(mill);
        staysTold(mill);
        CHECKS.end();
    }

    private static void told(String what, BundleMill mill, int... due) {
        for (int k = 0; k < 3; k++) {
            CHECKS.same(what + ": result " + k, mill.result(k), due[k]);
        }
        for (int k : new int[] {-1, 3, Integer.MIN_VALUE, Integer.MAX_VALUE}) {
            CHECKS.refuses(Checks.INDEX, what + ": result " + k, () -> mill.result(k));
        }
        int count = Math.min(due[0], 64);
        for (int i : new int[] {-1, count, 64, Integer.MIN_VALUE, Integer.MAX_VALUE}) {
            CHECKS.refuses(Checks.INDEX, what + ": output " + i, () -> mill.output(i));
        }
        for (int v : new int[] {-1, 12, Integer.MIN_VALUE, Integer.MAX_VALUE}) {
            CHECKS.refuses(Checks.INDEX, what + ": variable " + v, () -> mill.variable(v));
        }
        if (due[1] == 1 || due[2] == 0) {
            for (int v = 0; v < 12; v++) {
                CHECKS.same(what + ": variable " + v, mill.variable(v), 0);
            }
        }
    }

    /** 80 numbers are put out: 64 of them can be asked for. */
    private static void manyOutputs(BundleMill mill) {
        mill.block(1, 0, 1, 0);
        mill.operation(0, 11, 0, 0, 40, 0);
        mill.block(3, 11, 2, 0);
        mill.operation(1, 1, 1, 0, 3, 0);
        mill.operation(9, 0, 1, 0, 0, 0);
        mill.operation(9, 0, 2, 0, 0, 0);
        mill.operation(1, 2, 2, 0, -5, 0);
        mill.block(0, 0, 0, 0);
        mill.compile();
        mill.run();
        told("many outputs", mill, 80, 0, 42);
        for (int i = 0; i < 64; i++) {
            int time = i / 2;
            CHECKS.same("output " + i, mill.output(i), i % 2 == 0 ? 3 * time + 3 : -5 * time);
        }
        CHECKS.same("variable 11", mill.variable(11), 40);
        CHECKS.same("variable 1", mill.variable(1), 120);
        CHECKS.same("variable 2", mill.variable(2), -200);
        CHECKS.same("variable 0", mill.variable(0), 0);
    }

    private static void trapped(BundleMill mill) {
        mill.erase();
        mill.block(0, 0, 0, 0);
        mill.operation(0, 1, 0, 0, 4, 0);
        mill.operation(9, 0, 1, 0, 0, 0);
        mill.operation(6, 2, 1, 3, 0, 0);
        mill.operation(9, 0, 1, 0, 0, 0);
        mill.compile();
        mill.run();
        told("a trap", mill, 1, 1, 1);
        CHECKS.same("output 0", mill.output(0), 4);
        mill.poke(9, 1);
        mill.erase();
        mill.block(0, 0, 0, 0);
        mill.operation(0, 1, 0, 0, 4, 0);
        mill.compile();
        mill.run();
        told("the run behind it", mill, 0, 0, 1);
        CHECKS.same("its variable", mill.variable(1), 4);
        CHECKS.same("one of the run before", mill.variable(11), 0);
    }

    private static void staysTold(BundleMill mill) {
        mill.block(1, 0, 1, 0);
        CHECKS.refuses(Checks.STATE, "a run that must be compiled", mill::run);
        mill.machine(1, 1, 1, 1, 1, 1);
        mill.compile();
        CHECKS.same("compiling tells nothing", mill.variable(1), 4);
        mill.erase();
        told("behind erase", mill, 0, 0, 1);
        CHECKS.same("still its variable", mill.variable(1), 4);
    }
}
