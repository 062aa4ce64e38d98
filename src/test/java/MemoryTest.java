/** Promises 6 and 7: poke and peek. */
public final class MemoryTest {
    public static void main(String[] args) {
        Checks checks = new Checks("MemoryTest");
        BundleMill mill = new BundleMill();
        int[][] pairs = {{0, 0}, {63, 63}, {64, 0}, {-1, 63}, {-64, 0}, {Integer.MIN_VALUE, 0},
            {Integer.MAX_VALUE, 63}, {1000, 40}, {-1000, 24}};
        int value = 17;
        for (int[] pair : pairs) {
            value = value * 31 - 5;
            mill.poke(pair[0], value);
            checks.same("peek(" + pair[1] + ")", mill.peek(pair[1]), value);
            checks.same("peek(" + pair[0] + ")", mill.peek(pair[0]), value);
        }
        mill.poke(7, Integer.MIN_VALUE);
        mill.poke(8, Integer.MAX_VALUE);
        checks.same("peek(7)", mill.peek(7), Integer.MIN_VALUE);
        checks.same("peek(8)", mill.peek(8), Integer.MAX_VALUE);
        checks.same("another cell", mill.peek(9), 0);
        runsKeepIt(checks);
        checks.end();
    }

    private static void runsKeepIt(Checks checks) {
        BundleMill mill = new BundleMill();
        mill.block(0, 0, 0, 0);
        mill.operation(7, 1, 0, 0, -60, 0);
        mill.operation(1, 1, 1, 0, 1, 0);
        mill.operation(8, 0, 0, 1, 68, 0);
        mill.compile();
        mill.poke(4, 10);
        mill.run();
        checks.same("a run's STORE", mill.peek(4), 11);
        mill.run();
        checks.same("the next run finds it", mill.peek(4), 12);
        mill.poke(4, 100);
        checks.same("a poke needs no compiling", mill.run(), 5);
        checks.same("and the run sees it", mill.peek(4), 101);
        mill.machine(1, 1, 1, 1, 1, 1);
        mill.block(0, 0, 0, 0);
        mill.erase();
        checks.same("whatever is built", mill.peek(4), 101);
    }
}
