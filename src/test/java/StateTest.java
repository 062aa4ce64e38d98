/** Terms, A PROGRAM: what calls that throw, runs and building leave, and how a run begins. */
public final class StateTest extends Written {
    private static final Checks CHECKS = new Checks("StateTest");

    public static void main(String[] args) {
        CHECKS.sentence("A call that throws changes nothing", StateTest::changesNothing);
        CHECKS.sentence("A call that throws changes nothing: compile", StateTest::compileThrows);
        CHECKS.sentence("A call that throws changes nothing: run", StateTest::runThrows);
        CHECKS.sentence("of several exceptions the one told first", StateTest::toldFirst);
        CHECKS.sentence("asked of all blocks", StateTest::askedOfAll);
        CHECKS.sentence("MEMORY stays from run to run", StateTest::memoryStays);
        CHECKS.sentence("as a run that trapped left it, too", StateTest::trapLeaves);
        CHECKS.sentence("whatever is built", StateTest::whateverIsBuilt);
        CHECKS.sentence("what the latest run told stays until another one ends",
                StateTest::toldStays);
        CHECKS.sentence("until another one ends", StateTest::anotherEnds);
        CHECKS.sentence("A RUN begins in block 0", StateTest::beginsInBlock0);
        CHECKS.sentence("with all variables 0", StateTest::beginsWithZeros);
        CHECKS.sentence("as if one operation was done behind the other", StateTest::inOrder);
        CHECKS.sentence("used for at most 512 calls", StateTest::manyCalls);
        CHECKS.end();
    }

    /** Six blocks, the latest of ten operations, compiled, and run: 12 outputs. */
    private static BundleMill story() {
        BundleMill mill = machine(3, 2, 2, 4, 6, 5);
        mill.poke(3, 33);
        lay(mill, jump(1), set(11, 2), load(1, 0, 3), store(0, 4, 1));
        lay(mill, loop(11, 3), add(2, 2, 1), out(2));
        lay(mill, jump(5), set(5, 5));
        lay(mill, branch(2, 2, 4), mul(3, 2, 2));
        lay(mill, jump(5), set(5, 4));
        lay(mill, halt(), times(10, out(2)));
        mill.compile();
        mill.run();
        return mill;
    }

    /** What an object answers, without the rows. */
    private static String answers(BundleMill mill) {
        StringBuilder all = new StringBuilder();
        for (int what = 0; what < 3; what++) {
            all.append(mill.result(what)).append(' ');
        }
        for (int i = 0; i < mill.result(0); i++) {
            all.append(mill.output(i)).append(' ');
        }
        for (int v = 0; v < 12; v++) {
            all.append(mill.variable(v)).append(' ');
        }
        for (int address = 0; address < 64; address++) {
            all.append(mill.peek(address)).append(' ');
        }
        for (int x = 0; x < 6; x++) {
            int block = x;
            for (int what = 0; what < 7; what++) {
                int k = what;
                all.append(Checks.told(() -> mill.shape(block, k))).append(' ');
            }
            all.append(Checks.told(() -> mill.filled(block))).append(' ');
            all.append(Checks.told(() -> mill.bundle(block, 0, false))).append(' ');
        }
        return all.toString();
    }

    private static void changesNothing() {
        BundleMill mill = story();
        String due = answers(story());
        for (int k = 0; k < 6; k++) {
            int[] sizes = {1, 1, 1, 1, 1, 1};
            sizes[k] = 9;
            CHECKS.refusesDeed(Checks.ARGUMENT, "machine", () -> mill.machine(sizes[0], sizes[1],
                    sizes[2], sizes[3], sizes[4], sizes[5]));
        }
        CHECKS.refuses(Checks.ARGUMENT, "block", () -> mill.block(0, 0, 0, 6));
        CHECKS.refuses(Checks.STATE, "a seventh block", () -> mill.block(0, 0, 0, 0));
        CHECKS.refuses(Checks.ARGUMENT, "operation", () -> operate(mill, guarded(13, set(0, 0))));
        CHECKS.refuses(Checks.STATE, "an eleventh", () -> operate(mill, set(2, 0)));
        CHECKS.refuses(Checks.INDEX, "result", () -> mill.result(3));
        CHECKS.refuses(Checks.INDEX, "output", () -> mill.output(64));
        CHECKS.refuses(Checks.INDEX, "variable", () -> mill.variable(12));
        CHECKS.refuses(Checks.INDEX, "shape", () -> mill.shape(0, 7));
        CHECKS.refuses(Checks.ELEMENT, "place", () -> mill.place(0, 10, 0));
        CHECKS.refuses(Checks.INDEX, "bundle", () -> mill.bundle(0, 99, false));
        CHECKS.refuses(Checks.ELEMENT, "filled", () -> mill.filled(6));
        CHECKS.same("all that it answers", answers(mill), due);
        BundleMill other = story();
        CHECKS.same("cycles of another run", mill.run(), other.run());
        CHECKS.same("bundles", mill.compile(), other.compile());
    }

    private static void compileThrows() {
        BundleMill mill = lay(new BundleMill(), branch(0, 1, 3), out(0));
        lay(mill, jump(2), out(1));
        lay(mill, halt(), out(2));
        CHECKS.refuses(Checks.INDEX, "a missing block", mill::compile);
        CHECKS.refuses(Checks.STATE, "run", mill::run);
        CHECKS.refuses(Checks.STATE, "shape", () -> mill.shape(0, 0));
        lay(mill, jump(2), out(3));
        CHECKS.same("with it", mill.compile(), 4);
        CHECKS.same("both are taken", mill.shape(0, 0), 3);
        BundleMill loop = lay(lay(new BundleMill(), loop(1, 1), set(1, 1)), halt(), out(0));
        CHECKS.refuses(Checks.ARGUMENT, "a LOOP that writes its v", loop::compile);
        CHECKS.refuses(Checks.ARGUMENT, "once more", loop::compile);
        CHECKS.refuses(Checks.STATE, "run", loop::run);
        CHECKS.same("its next block", loop.block(0, 0, 0, 0), 2);
        BundleMill none = new BundleMill();
        CHECKS.refuses(Checks.STATE, "no block", none::compile);
        CHECKS.same("its first block", none.block(0, 0, 0, 0), 0);
    }

    private static void runThrows() {
        BundleMill mill = lay(new BundleMill(), branch(1, 1, 2), load(1, 0, 0), out(1),
                store(0, 1, 1));
        lay(mill, jump(1), out(1), store(0, 2, 1));
        lay(mill, halt(), set(2, 22));
        mill.compile();
        mill.run();
        mill.poke(0, 5);
        CHECKS.refuses(Checks.UNSUPPORTED, "a run without an end", mill::run);
        CHECKS.same("cell 1", mill.peek(1), 0);
        CHECKS.same("cell 2", mill.peek(2), 0);
        CHECKS.same("outputs", mill.result(0), 1);
        CHECKS.same("output 0", mill.output(0), 0);
        CHECKS.same("turns", mill.result(2), 2);
        CHECKS.same("variable 1", mill.variable(1), 0);
        CHECKS.same("variable 2", mill.variable(2), 22);
        mill.poke(0, 0);
        CHECKS.same("still compiled", mill.run(), mill.shape(0, 1) + 1 + mill.shape(2, 1) + 1);
        mill.erase();
        CHECKS.refuses(Checks.STATE, "run", mill::run);
        CHECKS.same("turns behind it", mill.result(2), 2);
    }

    private static void toldFirst() {
        BundleMill mill = new BundleMill();
        CHECKS.refuses(Checks.ARGUMENT, "operation: no block, and a wrong guard",
                () -> operate(mill, guarded(-13, set(0, 0))));
        CHECKS.refuses(Checks.STATE, "shape: not compiled, no block, a wrong what",
                () -> mill.shape(0, 7));
        CHECKS.refuses(Checks.STATE, "place: not compiled", () -> mill.place(0, 0, 5));
        CHECKS.refuses(Checks.STATE, "bundle: not compiled", () -> mill.bundle(0, 0, true));
        CHECKS.refuses(Checks.STATE, "filled: not compiled", () -> mill.filled(0));
        for (int x = 0; x < 6; x++) {
            lay(mill, halt(), times(10, set(0, 0)));
        }
        CHECKS.refuses(Checks.ARGUMENT, "block: 6, and no such end", () -> mill.block(4, 0, 0, 0));
        CHECKS.refuses(Checks.ARGUMENT, "operation: 10, and no such code",
                () -> operate(mill, op(10, 0, 0, 0, 0, 0)));
        mill.compile();
        CHECKS.refuses(Checks.ELEMENT, "shape: no block, a wrong what", () -> mill.shape(6, 7));
        CHECKS.refuses(Checks.ELEMENT, "place: no block, a wrong what", () -> mill.place(6, 0, 5));
        CHECKS.refuses(Checks.ELEMENT, "place: no operation, a wrong what",
                () -> mill.place(0, 10, 5));
        CHECKS.refuses(Checks.ELEMENT, "bundle: no block, no row", () -> mill.bundle(6, -1, false));
    }

    private static void askedOfAll() {
        BundleMill mill = lay(new BundleMill(), loop(0, 0), set(0, 0));
        lay(mill, loop(1, 1), set(1, 0));
        lay(mill, jump(5));
        CHECKS.refuses(Checks.INDEX, "the last one's t", mill::compile);
        mill.erase();
        lay(mill, halt());
        lay(mill, branch(0, 0, 4));
        lay(mill, loop(0, 0), set(0, 0));
        CHECKS.refuses(Checks.INDEX, "f of one between", mill::compile);
        lay(mill, halt());
        lay(mill, halt());
        CHECKS.refuses(Checks.ARGUMENT, "the last one's v", mill::compile);
    }

    private static void memoryStays() {
        BundleMill mill = halting(new BundleMill(), load(1, 0, 63), step(2, 1, 1),
                store(0, 63, 2));
        for (int run = 1; run < 5; run++) {
            mill.run();
            CHECKS.same("run " + run, mill.peek(63), run);
        }
    }

    private static void trapLeaves() {
        BundleMill mill = halting(new BundleMill(), set(1, 6), store(0, 0, 1), store(0, 63, 1),
                div(2, 1, 3), store(0, 1, 1));
        mill.run();
        CHECKS.same("a trap", mill.result(1), 1);
        CHECKS.same("stored ahead of it", mill.peek(0), 6);
        CHECKS.same("that too", mill.peek(63), 6);
        CHECKS.same("not behind it", mill.peek(1), 0);
        mill.erase();
        halting(mill, load(1, 0, 0), out(1));
        mill.run();
        CHECKS.same("the next run finds it", mill.output(0), 6);
    }

    private static void whateverIsBuilt() {
        BundleMill mill = story();
        mill.poke(60, -5);
        mill.machine(1, 1, 1, 1, 1, 1);
        CHECKS.same("behind machine", mill.peek(4), 33);
        mill.compile();
        CHECKS.same("behind compile", mill.peek(4), 33);
        mill.erase();
        CHECKS.same("behind erase", mill.peek(4), 33);
        mill.block(0, 0, 0, 0);
        CHECKS.same("behind block", mill.peek(4), 33);
        operate(mill, store(0, 4, 0));
        CHECKS.same("behind operation", mill.peek(4), 33);
        mill.compile();
        CHECKS.same("what a poke left, too", mill.peek(60), -5);
        mill.run();
        CHECKS.same("until a run stores", mill.peek(4), 0);
        CHECKS.same("elsewhere it stays", mill.peek(60), -5);
    }

    private static String told(BundleMill mill) {
        StringBuilder all = new StringBuilder();
        for (int what = 0; what < 3; what++) {
            all.append(mill.result(what)).append(' ');
        }
        for (int i = 0; i <= 12; i++) {
            int k = i;
            all.append(Checks.told(() -> mill.output(k))).append(' ');
        }
        for (int v = 0; v < 12; v++) {
            all.append(mill.variable(v)).append(' ');
        }
        return all.toString();
    }

    private static void toldStays() {
        BundleMill mill = story();
        String due = told(mill);
        mill.machine(1, 1, 1, 1, 1, 1);
        CHECKS.same("behind machine", told(mill), due);
        CHECKS.refuses(Checks.STATE, "run", mill::run);
        CHECKS.same("behind a run that must be compiled", told(mill), due);
        mill.compile();
        CHECKS.same("behind compile", told(mill), due);
        mill.poke(4, 99);
        CHECKS.same("behind poke", told(mill), due);
        mill.erase();
        CHECKS.same("behind erase", told(mill), due);
        lay(mill, jump(0), set(0, 5), out(0));
        CHECKS.same("behind block and operation", told(mill), due);
        mill.compile();
        CHECKS.refuses(Checks.UNSUPPORTED, "run", mill::run);
        CHECKS.same("behind a run of too many turns", told(mill), due);
    }

    private static void anotherEnds() {
        BundleMill mill = story();
        mill.erase();
        halting(mill, set(1, 8), out(1), div(2, 1, 3));
        mill.run();
        CHECKS.same("outputs of a run that trapped", mill.result(0), 1);
        CHECKS.same("its output", mill.output(0), 8);
        CHECKS.refuses(Checks.INDEX, "no output of the one before", () -> mill.output(1));
        CHECKS.same("it trapped", mill.result(1), 1);
        CHECKS.same("its turns", mill.result(2), 1);
        CHECKS.same("no variable", mill.variable(2), 0);
        mill.erase();
        halting(mill);
        mill.run();
        for (int time = 0; time < 3; time++) {
            CHECKS.same("outputs of an empty run", mill.result(0), 0);
            CHECKS.refuses(Checks.INDEX, "none", () -> mill.output(0));
            CHECKS.same("it did not trap", mill.result(1), 0);
            CHECKS.same("its turns", mill.result(2), 1);
            mill.run();
        }
    }

    private static void beginsInBlock0() {
        BundleMill mill = lay(new BundleMill(), halt(), set(1, 100), out(1));
        lay(mill, jump(0), set(1, 101), out(1));
        compiled(lay(mill, jump(1), set(1, 102), out(1)));
        for (int run = 0; run < 2; run++) {
            mill.run();
            CHECKS.same("outputs", mill.result(0), 1);
            CHECKS.same("block 0's", mill.output(0), 100);
        }
    }

    private static void beginsWithZeros() {
        BundleMill mill = lay(new BundleMill(), halt());
        for (int v = 0; v < 10; v++) {
            operate(mill, step(v, v, v + 1));
        }
        mill.compile();
        for (int run = 0; run < 3; run++) {
            mill.run();
            for (int v = 0; v < 10; v++) {
                CHECKS.same("variable " + v, mill.variable(v), v + 1);
            }
        }
        mill.erase();
        halting(mill, out(0), out(9), add(11, 9, 8), step(1, 1, 1), div(2, 1, 3));
        mill.run();
        CHECKS.same("behind another program", mill.output(0), 0);
        CHECKS.same("that too", mill.output(1), 0);
        mill.erase();
        halting(mill, out(1));
        mill.run();
        CHECKS.same("behind a trap", mill.output(0), 0);
        CHECKS.same("no variable stays", mill.variable(1), 0);
    }

    /** Read and written again before what was written is there, by long pipelines. */
    private static void inOrder() {
        int[] longest = {4, 2, 8, 8, 8, 8};
        int[] shortest = {4, 2, 1, 8, 8, 1};
        for (int[] sizes : new int[][] {longest, shortest}) {
            BundleMill mill = halting(machine(sizes), set(1, 3), mul(2, 1, 1), out(1), set(1, 4),
                    add(3, 1, 2), store(0, 9, 3), load(4, 0, 9), set(3, 0), out(4));
            mill.run();
            CHECKS.same("read before it is written again", mill.output(0), 3);
            CHECKS.same("loaded behind the STORE", mill.output(1), 13);
            CHECKS.same("the product", mill.variable(2), 9);
            CHECKS.same("written again", mill.variable(3), 0);
            BundleMill twice = halting(machine(sizes), set(1, 2), mul(2, 1, 1), set(2, 5), out(2));
            twice.run();
            CHECKS.same("what is written last stays", twice.variable(2), 5);
            CHECKS.same("and is read", twice.output(0), 5);
            BundleMill loop = counted(machine(sizes), 4, out(1), step(2, 2, 1), mul(1, 2, 2));
            loop.run();
            for (int i = 0; i < 4; i++) {
                CHECKS.same("the product of the time before", loop.output(i), i * i);
            }
        }
    }

    private static void manyCalls() {
        BundleMill mill = story();
        for (int call = 29; call < 512; call++) {
            mill.poke(call, call);
        }
        CHECKS.same("the 512th call", mill.peek(511), 511);
        BundleMill runs = halting(new BundleMill(), step(1, 1, 7), out(1));
        for (int call = 5; call < 512; call++) {
            runs.run();
        }
        CHECKS.same("the 512th call behind runs", runs.variable(1), 7);
    }
}
