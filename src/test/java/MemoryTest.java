/** Promises 6 and 7: poke and peek. */
public final class MemoryTest extends Written {
    private static final Checks CHECKS = new Checks("MemoryTest");

    public static void main(String[] args) {
        CHECKS.sentence("poke: A cell of memory gets a value", MemoryTest::pokes);
        CHECKS.sentence("peek: What a cell of memory has", MemoryTest::peeks);
        CHECKS.sentence("of an address its lowest six bits count", MemoryTest::sixBits);
        CHECKS.sentence("neither needs a program, nor compiling anew", MemoryTest::withoutProgram);
        CHECKS.end();
    }

    private static void pokes() {
        BundleMill mill = new BundleMill();
        for (int value : new int[] {1, -1, 0, MIN, MAX, 77}) {
            mill.poke(7, value);
            CHECKS.same("cell 7", mill.peek(7), value);
            CHECKS.same("cell 6", mill.peek(6), 0);
            CHECKS.same("cell 8", mill.peek(8), 0);
        }
    }

    private static void peeks() {
        BundleMill mill = new BundleMill();
        mill.poke(0, 5);
        mill.poke(63, 6);
        halting(mill, load(1, 0, 0), load(2, 0, 63), add(3, 1, 2), store(0, 1, 3));
        CHECKS.same("what was poked", mill.peek(0), 5);
        CHECKS.same("twice asked", mill.peek(0), 5);
        mill.run();
        CHECKS.same("what a run stored", mill.peek(1), 11);
        CHECKS.same("what it let be", mill.peek(63), 6);
        mill.poke(1, 12);
        CHECKS.same("poked behind the run", mill.peek(1), 12);
    }

    private static void sixBits() {
        int[][] pairs = {{0, 0}, {63, 63}, {64, 0}, {65, 1}, {127, 63}, {128, 0}, {-1, 63},
            {-64, 0}, {-65, 63}, {MIN, 0}, {MIN + 1, 1}, {MAX, 63}, {MAX - 1, 62}, {1000, 40},
            {-1000, 24}};
        BundleMill mill = new BundleMill();
        for (int k = 0; k < pairs.length; k++) {
            mill.poke(pairs[k][0], k + 100);
            CHECKS.same("peek(" + pairs[k][1] + ")", mill.peek(pairs[k][1]), k + 100);
            CHECKS.same("peek(" + pairs[k][0] + ")", mill.peek(pairs[k][0]), k + 100);
            mill.poke(pairs[k][1], k + 200);
            CHECKS.same("the other way about", mill.peek(pairs[k][0]), k + 200);
        }
    }

    private static void withoutProgram() {
        BundleMill mill = new BundleMill();
        mill.poke(3, 4);
        CHECKS.same("without a block", mill.peek(3), 4);
        halting(mill, load(1, 0, 3));
        mill.poke(3, 5);
        CHECKS.same("a run behind a poke", mill.run(), 3);
        CHECKS.same("it sees it", mill.variable(1), 5);
        mill.poke(3, 6);
        CHECKS.same("what the run told stays", mill.variable(1), 5);
        CHECKS.same("the next run", mill.run(), 3);
        CHECKS.same("sees the next", mill.variable(1), 6);
    }
}
