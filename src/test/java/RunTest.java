/** Promise 9: run. */
public final class RunTest extends Written {
    private static final Checks CHECKS = new Checks("RunTest");

    public static void main(String[] args) {
        CHECKS.sentence("Runs what is compiled: how many cycles", RunTest::runs);
        CHECKS.sentence("IllegalStateException: it must be compiled (anew)",
                RunTest::mustBeCompiled);
        CHECKS.sentence("more than 100 turns: blocks", RunTest::blocks);
        CHECKS.sentence("more than 100 turns: LOOPs", RunTest::loops);
        CHECKS.sentence("more than 100 turns: LOOPs by list, and without operations",
                RunTest::otherLoops);
        CHECKS.sentence("when it comes to a block", RunTest::whenItComes);
        CHECKS.sentence("nothing has changed then", RunTest::nothingChanged);
        CHECKS.end();
    }

    private static void runs() {
        BundleMill mill = halting(new BundleMill());
        CHECKS.same("an empty block", mill.run(), 1);
        CHECKS.same("once more", mill.run(), 1);
        mill.erase();
        halting(mill, mul(1, 2, 2), step(3, 1, 1));
        CHECKS.same("L and one", mill.run(), 5);
        CHECKS.same("its variable", mill.variable(3), 1);
        BundleMill given = lay(new BundleMill(), branch(0, 1, 2), set(1, 1));
        lay(given, jump(2), set(2, 2));
        lay(given, halt(), set(3, 3));
        given.compile();
        CHECKS.same("what is compiled: two blocks", given.run(), 1 + 1 + 1 + 1);
        CHECKS.same("what was not done", given.variable(2), 0);
        CHECKS.same("z's", given.variable(3), 3);
    }

    private static void mustBeCompiled() {
        BundleMill mill = new BundleMill();
        CHECKS.refuses(Checks.STATE, "no block", mill::run);
        mill.block(0, 0, 0, 0);
        CHECKS.refuses(Checks.STATE, "not compiled", mill::run);
        mill.compile();
        CHECKS.same("compiled", mill.run(), 1);
        operate(mill, mul(0, 0, 0));
        CHECKS.refuses(Checks.STATE, "not anew", mill::run);
        mill.compile();
        CHECKS.same("anew", mill.run(), 4);
        mill.block(1, 0, 5, 0);
        CHECKS.refuses(Checks.STATE, "behind block", mill::run);
        CHECKS.refuses(Checks.INDEX, "a compile that throws", mill::compile);
        CHECKS.refuses(Checks.STATE, "behind it", mill::run);
        mill.erase();
        CHECKS.refuses(Checks.STATE, "behind erase", mill::run);
    }

    /** A block that comes to itself until its count is told, and a HALT: one turn more. */
    private static BundleMill round(int count) {
        BundleMill mill = lay(new BundleMill(), branch(2, 0, 1), step(1, 1, 1), set(3, count),
                less(2, 1, 3));
        return halting(mill);
    }

    private static void blocks() {
        BundleMill most = round(99);
        CHECKS.same("cycles of 100 turns", most.run(), 99 * (most.shape(0, 1) + 1) + 1);
        CHECKS.same("100 turns", most.result(2), 100);
        CHECKS.same("steps", most.variable(1), 99);
        CHECKS.refuses(Checks.UNSUPPORTED, "101 turns", round(100)::run);
        CHECKS.refuses(Checks.UNSUPPORTED, "102 turns", round(101)::run);
        CHECKS.refuses(Checks.UNSUPPORTED, "a ring of one",
                compiled(lay(new BundleMill(), jump(0)))::run);
        CHECKS.refuses(Checks.UNSUPPORTED, "a ring of two",
                compiled(lay(lay(new BundleMill(), jump(1), set(1, 1)), branch(1, 0, 1)))::run);
        BundleMill trap = compiled(lay(new BundleMill(), jump(0), step(1, 1, 1), set(2, 100),
                op(3, 3, 2, 1, 0, 0), div(4, 1, 3)));
        trap.run();
        CHECKS.same("a trap in turn 100", trap.result(1), 1);
        CHECKS.same("its turns", trap.result(2), 100);
    }

    private static void loops() {
        BundleMill most = counted(new BundleMill(), 98, step(1, 1, 1));
        CHECKS.same("98 and 2: cycles", most.run(), 2 + 98 + 1 + 1);
        CHECKS.same("100 turns", most.result(2), 100);
        CHECKS.refuses(Checks.UNSUPPORTED, "99 and 2: the HALT is the 101st",
                counted(new BundleMill(), 99, step(1, 1, 1))::run);
        for (int count : new int[] {100, 101, 1000, MAX - 1, MAX}) {
            CHECKS.refuses(Checks.UNSUPPORTED, count + " and 2",
                    counted(new BundleMill(), count, step(1, 1, 1))::run);
        }
        for (int count : new int[] {0, -1, MIN}) {
            BundleMill none = counted(new BundleMill(), count, step(1, 1, 1));
            CHECKS.same("cycles of " + count, none.run(), 4);
            CHECKS.same("turns of " + count, none.result(2), 3);
        }
    }

    private static void otherLoops() {
        CHECKS.same("without operations", counted(new BundleMill(), 98).run(), 4);
        CHECKS.refuses(Checks.UNSUPPORTED, "99", counted(new BundleMill(), 99)::run);
        CHECKS.refuses(Checks.UNSUPPORTED, "the most", counted(new BundleMill(), MAX)::run);
        int[][] ops = {store(3, 0, 1), out(1), load(3, 1, 0)};
        CHECKS.same("by list", counted(machine(1, 1, 1, 1, 8, 2), 98, ops).run(), 98 * 3 + 4);
        CHECKS.refuses(Checks.UNSUPPORTED, "99 by list",
                counted(machine(1, 1, 1, 1, 8, 2), 99, ops)::run);
        BundleMill two = lay(new BundleMill(), jump(1), set(1, 50), set(2, 48));
        lay(lay(two, loop(1, 2)), loop(2, 3));
        halting(two).run();
        CHECKS.same("two LOOPs of 50 and 48", two.result(2), 100);
        BundleMill more = lay(new BundleMill(), jump(1), set(1, 50), set(2, 49));
        lay(lay(more, loop(1, 2)), loop(2, 3));
        CHECKS.refuses(Checks.UNSUPPORTED, "of 50 and 49", halting(more)::run);
    }

    /** The LOOP would trap in its first time, but it has too many turns; a trap ahead ends all. */
    private static void whenItComes() {
        CHECKS.refuses(Checks.UNSUPPORTED, "a LOOP that would trap",
                counted(new BundleMill(), 100, div(1, 11, 2))::run);
        BundleMill ahead = lay(new BundleMill(), jump(1), set(11, 1000), div(1, 11, 2));
        compiled(lay(ahead, loop(11, 1)));
        CHECKS.same("a trap ahead of it", ahead.run(), ahead.place(0, 1, 3) + 1);
        CHECKS.same("one turn", ahead.result(2), 1);
        BundleMill inside = counted(new BundleMill(), 99, step(1, 1, 1), div(2, 11, 3));
        inside.run();
        CHECKS.same("a trap in a LOOP of 99", inside.result(1), 1);
        CHECKS.same("the HALT is not come to", inside.result(2), 100);
        BundleMill never = lay(new BundleMill(), jump(2), set(11, 1000));
        lay(never, loop(11, 2));
        CHECKS.same("one that is not come to", halting(never).run(), 3);
    }

    private static void nothingChanged() {
        BundleMill mill = lay(new BundleMill(), jump(1), load(11, 0, 0), out(11), store(0, 1, 11));
        lay(mill, loop(11, 2));
        halting(mill);
        mill.poke(0, 5);
        mill.run();
        mill.poke(0, 99);
        for (int time = 0; time < 2; time++) {
            CHECKS.refuses(Checks.UNSUPPORTED, "101 turns", mill::run);
            CHECKS.same("memory", mill.peek(1), 5);
            CHECKS.same("what was poked", mill.peek(0), 99);
            CHECKS.same("outputs", mill.result(0), 1);
            CHECKS.same("output 0", mill.output(0), 5);
            CHECKS.same("no trap", mill.result(1), 0);
            CHECKS.same("turns", mill.result(2), 7);
            CHECKS.same("variable 11", mill.variable(11), 5);
        }
        mill.poke(0, 98);
        CHECKS.same("100 turns", mill.run(), mill.shape(0, 1) + 1 + 1 + 1);
        CHECKS.same("memory behind it", mill.peek(1), 98);
        CHECKS.same("output behind it", mill.output(0), 98);
        BundleMill none = compiled(lay(new BundleMill(), jump(0), step(1, 1, 1), out(1)));
        CHECKS.refuses(Checks.UNSUPPORTED, "before any run", none::run);
        for (int what = 0; what < 3; what++) {
            CHECKS.same("result " + what, none.result(what), 0);
        }
        CHECKS.same("variable 1", none.variable(1), 0);
        CHECKS.refuses(Checks.INDEX, "no output", () -> none.output(0));
    }
}
