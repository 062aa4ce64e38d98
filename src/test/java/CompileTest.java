/** Promise 8: compile. */
public final class CompileTest extends Written {
    private static final Checks CHECKS = new Checks("CompileTest");

    public static void main(String[] args) {
        CHECKS.sentence("how many bundles there are in all", CompileTest::inAll);
        CHECKS.sentence("of a LOOP by modulo those of its II rows alone", CompileTest::ofLoops);
        CHECKS.sentence("IllegalStateException: there is no block", CompileTest::noBlock);
        CHECKS.sentence("IndexOutOfBoundsException: a t or f that counts is no block",
                CompileTest::missingBlocks);
        CHECKS.sentence("IllegalArgumentException: an operation of a LOOP's block writes its v",
                CompileTest::writtenCounts);
        CHECKS.sentence("the one told first, asked of all blocks", CompileTest::firstTold);
        CHECKS.sentence("what was compiled is compiled once more", CompileTest::onceMore);
        CHECKS.end();
    }

    private static void inAll() {
        CHECKS.same("an empty block", lay(new BundleMill(), halt()).compile(), 0);
        CHECKS.same("one", lay(new BundleMill(), halt(), set(0, 0)).compile(), 1);
        CHECKS.same("rows without operations, too", lay(new BundleMill(), halt(), div(0, 1, 1))
                .compile(), 8);
        BundleMill mill = lay(new BundleMill(), jump(1), mul(0, 1, 1));
        lay(mill, branch(0, 2, 2), set(0, 0), set(1, 0), set(2, 0));
        lay(mill, halt());
        CHECKS.same("3 + 2 + 0", mill.compile(), 5);
        lay(mill, jump(0), div(0, 1, 1));
        CHECKS.same("and 8 of one that nothing comes to", mill.compile(), 13);
        BundleMill guards = lay(new BundleMill(), branch(0, 1, 2), set(1, 0));
        lay(guards, jump(2), set(2, 0));
        CHECKS.same("one row holds both", lay(guards, halt(), set(3, 0)).compile(), 2);
        BundleMill most = new BundleMill();
        most.machine(1, 1, 8, 8, 8, 8);
        for (int x = 0; x < 6; x++) {
            lay(most, halt(), times(10, mul(1, 1, 1)));
        }
        CHECKS.same("the most", most.compile(), 480);
    }

    private static void ofLoops() {
        BundleMill mill = lay(new BundleMill(), jump(1), mul(1, 0, 0));
        lay(mill, loop(0, 2), mul(1, 11, 11), mul(2, 11, 11), mul(3, 11, 11));
        lay(mill, loop(0, 3));
        lay(mill, halt(), div(0, 1, 1));
        CHECKS.same("3 + 2 + 0 + 8", mill.compile(), 13);
        CHECKS.same("L of the LOOP", mill.shape(1, 1), 4);
        CHECKS.same("II of the LOOP", mill.shape(1, 3), 2);
        BundleMill list = lay(machine(1, 1, 1, 1, 8, 2), loop(9, 0), store(3, 0, 1), out(1),
                load(3, 1, 0));
        CHECKS.same("by list all rows", list.compile(), 3);
        BundleMill one = lay(machine(1, 1, 8, 8, 8, 8), loop(9, 0), mul(1, 2, 2));
        CHECKS.same("one of eight", one.compile(), 1);
    }

    private static void noBlock() {
        BundleMill mill = new BundleMill();
        CHECKS.refuses(Checks.STATE, "a new object", mill::compile);
        mill.machine(1, 1, 1, 1, 1, 1);
        CHECKS.refuses(Checks.STATE, "with a machine", mill::compile);
        lay(mill, halt());
        CHECKS.same("with a block", mill.compile(), 0);
        mill.erase();
        CHECKS.refuses(Checks.STATE, "behind erase", mill::compile);
    }

    /** A block, and as many HALTs behind it. */
    private static BundleMill ahead(int halts, int... end) {
        BundleMill mill = lay(new BundleMill(), end);
        for (int k = 0; k < halts; k++) {
            mill.block(0, 0, 5, 5);
        }
        return mill;
    }

    private static void missingBlocks() {
        for (int halts = 0; halts < 5; halts++) {
            int last = halts;
            int missing = halts + 1;
            CHECKS.same("HALT", ahead(halts, 0, 0, missing, missing).compile(), 0);
            CHECKS.same("JUMP", ahead(halts, 1, 0, last, missing).compile(), 0);
            CHECKS.same("BRANCH", ahead(halts, 2, 0, last, last).compile(), 0);
            CHECKS.same("LOOP", ahead(halts, 3, 0, last, missing).compile(), 0);
            CHECKS.refuses(Checks.INDEX, "JUMP's t", ahead(halts, 1, 0, missing, 0)::compile);
            CHECKS.refuses(Checks.INDEX, "BRANCH's t", ahead(halts, 2, 0, missing, 0)::compile);
            CHECKS.refuses(Checks.INDEX, "BRANCH's f", ahead(halts, 2, 0, 0, missing)::compile);
            CHECKS.refuses(Checks.INDEX, "both", ahead(halts, 2, 0, missing, missing)::compile);
            CHECKS.refuses(Checks.INDEX, "LOOP's t", ahead(halts, 3, 0, missing, 0)::compile);
            CHECKS.refuses(Checks.INDEX, "5", ahead(halts, 1, 0, 5, 0)::compile);
        }
        CHECKS.same("5 of six", ahead(5, 2, 0, 5, 5).compile(), 0);
        BundleMill mill = ahead(3, 0, 0, 0, 0);
        mill.block(1, 0, 5, 0);
        CHECKS.refuses(Checks.INDEX, "a block that nothing comes to", mill::compile);
        CHECKS.refuses(Checks.STATE, "run() behind it", mill::run);
        mill.block(0, 0, 0, 0);
        CHECKS.same("when the block has come", mill.compile(), 0);
    }

    private static void writtenCounts() {
        for (int code = 0; code < 10; code++) {
            for (int guard : new int[] {0, 1, -12}) {
                BundleMill mill = lay(new BundleMill(), halt());
                lay(mill, loop(4, 0), op(code, 4, 0, 0, 0, guard));
                String told = Checks.told(mill::compile);
                CHECKS.same("code " + code, told.equals("throws." + Checks.ARGUMENT) ? 1 : 0,
                        code < 8 ? 1 : 0);
                BundleMill reads = lay(new BundleMill(), loop(4, 0), op(code, 3, 4, 4, 0, 5));
                CHECKS.holds("code " + code + " may read it", reads.compile() > 0);
            }
        }
        for (int v : new int[] {0, 11}) {
            BundleMill last = lay(new BundleMill(), loop(v, 0), times(9, out(1)));
            operate(last, set(v, 0));
            CHECKS.refuses(Checks.ARGUMENT, "the tenth operation", last::compile);
            CHECKS.refuses(Checks.STATE, "shape behind it", () -> last.shape(0, 0));
        }
        for (int[] end : new int[][] {halt(), jump(0), branch(4, 0, 0)}) {
            CHECKS.same("end " + end[0], lay(new BundleMill(), new int[] {end[0], 4, 0, 0},
                    set(4, 0)).compile(), 1);
        }
        BundleMill other = lay(lay(new BundleMill(), loop(4, 1), set(5, 0)), loop(5, 0),
                set(4, 0));
        CHECKS.same("another LOOP's v", other.compile(), 2);
    }

    private static void firstTold() {
        BundleMill mill = lay(new BundleMill(), loop(0, 0), set(0, 0));
        CHECKS.refuses(Checks.ARGUMENT, "a LOOP that writes v", mill::compile);
        lay(mill, jump(2));
        CHECKS.refuses(Checks.INDEX, "a missing block behind it", mill::compile);
        lay(mill, halt());
        CHECKS.refuses(Checks.ARGUMENT, "when it has come", mill::compile);
        mill.erase();
        CHECKS.refuses(Checks.STATE, "no block", mill::compile);
    }

    private static void onceMore() {
        BundleMill mill = lay(new BundleMill(), branch(0, 1, 2), mul(1, 2, 2));
        lay(mill, jump(2), mul(2, 1, 1));
        lay(mill, loop(0, 3), mul(1, 2, 2), step(2, 2, 1));
        lay(mill, halt(), out(1));
        int due = mill.compile();
        for (int time = 0; time < 3; time++) {
            CHECKS.same("bundles", mill.compile(), due);
            CHECKS.same("operations of 0", mill.shape(0, 0), 2);
        }
        CHECKS.same("cycles", mill.run(), mill.shape(0, 1) + 1 + 1 + 1 + 1);
    }
}
