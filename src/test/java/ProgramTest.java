/** Terms, A PROGRAM: variables, memory, blocks, operations, guards, and how a block ends. */
public final class ProgramTest extends Written {
    private static final Checks CHECKS = new Checks("ProgramTest");

    public static void main(String[] args) {
        CHECKS.sentence("VARIABLES 0 .. 11 are ints", ProgramTest::variables);
        CHECKS.sentence("MEMORY has 64 ints", ProgramTest::cells);
        CHECKS.sentence("of an address its lowest six bits count", ProgramTest::addresses);
        CHECKS.sentence("at most 6 BLOCKS, numbered from 0", ProgramTest::blocks);
        CHECKS.sentence("of at most 10 OPERATIONS each, numbered from 0 in their order",
                ProgramTest::operations);
        CHECKS.sentence("all ints wrap", ProgramTest::wrapping);
        CHECKS.sentence("0 SET d = n", ProgramTest::setting);
        CHECKS.sentence("1 STEP d = a + n", ProgramTest::stepping);
        CHECKS.sentence("2 ADD d = a + b; 3 SUB d = a - b; 4 MUL d = a * b",
                ProgramTest::reckoning);
        CHECKS.sentence("5 LESS d = 1 when a is less than b, else 0", ProgramTest::comparing);
        CHECKS.sentence("6 DIV d = a / b", ProgramTest::dividing);
        CHECKS.sentence("when b is 0 it is a TRAP, and the run is over", ProgramTest::trapping);
        CHECKS.sentence("7 LOAD d = memory at a + n", ProgramTest::loading);
        CHECKS.sentence("8 STORE: memory at a + n becomes b", ProgramTest::storing);
        CHECKS.sentence("9 OUT: a is put out", ProgramTest::puttingOut);
        CHECKS.sentence("a GUARD: a variable that must not be 0", ProgramTest::mustNotBeZero);
        CHECKS.sentence("or one that must be 0", ProgramTest::mustBeZero);
        CHECKS.sentence("it does nothing otherwise", ProgramTest::doesNothing);
        CHECKS.sentence("and is no trap", ProgramTest::isNoTrap);
        ends();
        CHECKS.end();
    }

    private static void ends() {
        CHECKS.sentence("0 HALT: the run is over", ProgramTest::halts);
        CHECKS.sentence("1 JUMP: t comes next", ProgramTest::jumps);
        CHECKS.sentence("2 BRANCH: t when v is not 0, else f", ProgramTest::branches);
        CHECKS.sentence("3 LOOP: the block's operations are done, all of them in order, as often as"
                + " v says", ProgramTest::loops);
        CHECKS.sentence("when the block is come to", ProgramTest::comesTwice);
        CHECKS.sentence("never when it is below 1", ProgramTest::loopsNever);
        CHECKS.sentence("then t comes", ProgramTest::thenTComes);
    }

    private static void variables() {
        int[] values = {MIN, -1, 0, 1, MAX, 65536, -65536, 7, MAX - 1, MIN + 1, 1 << 20, -77};
        BundleMill mill = lay(new BundleMill(), jump(1));
        for (int v = 0; v < 8; v++) {
            operate(mill, set(v, values[v]));
        }
        lay(mill, halt());
        for (int v = 8; v < 12; v++) {
            operate(mill, set(v, values[v]));
        }
        mill.compile();
        mill.run();
        for (int v = 0; v < 12; v++) {
            CHECKS.same("variable " + v, mill.variable(v), values[v]);
        }
        CHECKS.refuses(Checks.ARGUMENT, "no variable 12", () -> operate(mill, set(12, 0)));
        CHECKS.refuses(Checks.ARGUMENT, "no variable -1", () -> operate(mill, set(-1, 0)));
    }

    private static void cells() {
        BundleMill mill = new BundleMill();
        for (int address = 0; address < 64; address++) {
            mill.poke(address, address * 0x4000001 + 5);
        }
        for (int address = 0; address < 64; address++) {
            CHECKS.same("cell " + address, mill.peek(address), address * 0x4000001 + 5);
        }
    }

    private static void addresses() {
        int[] far = {-1, 63, 64, 0, -64, 0, 127, 63, MIN, 0, MAX, 63, 1000, 40, -1000, 24};
        for (int k = 0; k < far.length; k += 2) {
            BundleMill mill = new BundleMill();
            mill.poke(far[k], 9);
            CHECKS.same("poke at " + far[k], mill.peek(far[k + 1]), 9);
            CHECKS.same("peek at " + far[k], mill.peek(far[k]), 9);
            halting(mill, set(1, far[k]), load(2, 1, 0), step(3, 2, 1), store(1, 0, 3));
            mill.run();
            CHECKS.same("LOAD at " + far[k], mill.variable(2), 9);
            CHECKS.same("STORE at " + far[k], mill.peek(far[k + 1]), 10);
        }
    }

    private static void blocks() {
        BundleMill mill = new BundleMill();
        for (int x = 0; x < 6; x++) {
            CHECKS.same("a block", mill.block(0, 0, 0, 0), x);
            mill.operation(0, x, 0, 0, x + 3, 0);
        }
        CHECKS.refuses(Checks.STATE, "a seventh", () -> mill.block(0, 0, 0, 0));
        CHECKS.same("a bundle of each", mill.compile(), 6);
        for (int x = 0; x < 6; x++) {
            CHECKS.same("operations of " + x, mill.shape(x, 0), 1);
        }
    }

    private static void operations() {
        BundleMill mill = new BundleMill();
        for (int x = 0; x < 6; x++) {
            mill.block(x < 5 ? 1 : 0, 0, Math.min(x + 1, 5), 0);
            for (int k = 0; k < 10; k++) {
                CHECKS.same("an operation of " + x, operate(mill, step(k, k, x)), k);
            }
            CHECKS.refuses(Checks.STATE, "an eleventh", () -> operate(mill, set(0, 0)));
        }
        CHECKS.same("ten by two in each", mill.compile(), 30);
        mill.run();
        for (int k = 0; k < 10; k++) {
            CHECKS.same("all were done", mill.variable(k), 15);
        }
        BundleMill one = halting(new BundleMill(), times(10, set(0, 0)));
        CHECKS.same("ten", one.shape(0, 0), 10);
        BundleMill codes = lay(new BundleMill(), halt());
        for (int k = 0; k < 10; k++) {
            operate(codes, op(9 - k, 0, 0, 0, 0, 0));
        }
        codes.compile();
        for (int k = 0; k < 10; k++) {
            CHECKS.same("code of " + k, codes.place(0, k, 0), 9 - k);
        }
    }

    /** What one operation gives, with a = variable 1, b = variable 2 and 555 in cell 5. */
    private static void gives(String what, int code, int a, int b, int n, int due) {
        BundleMill mill = new BundleMill();
        mill.poke(5, 555);
        halting(mill, set(1, a), set(2, b), op(code, 3, 1, 2, n, 0));
        mill.run();
        CHECKS.same(what, mill.variable(3), due);
        CHECKS.same(what + " is no trap", mill.result(1), 0);
    }

    private static void wrapping() {
        gives("STEP", 1, MAX, 0, 1, MIN);
        gives("STEP down", 1, MIN, 0, MIN, 0);
        gives("ADD", 2, MIN, -1, 0, MAX);
        gives("SUB", 3, MIN, 1, 0, MAX);
        gives("SUB of the least", 3, 0, MIN, 0, MIN);
        gives("MUL", 4, 65536, 65536, 0, 0);
        gives("MUL of the least", 4, MIN, -1, 0, MIN);
        gives("DIV of the least", 6, MIN, -1, 0, MIN);
        gives("an address", 7, MAX, 0, 6, 555);
        gives("another address", 7, MAX, 0, MAX - 57, 555);
        gives("one below", 7, MIN, 0, MIN + 5, 555);
    }

    private static void setting() {
        for (int n : new int[] {MIN, -1, 0, 1, MAX}) {
            gives("SET", 0, 8, 9, n, n);
        }
    }

    private static void stepping() {
        gives("STEP", 1, 5, 100, -8, -3);
        gives("by none", 1, 5, 100, 0, 5);
        gives("upward", 1, -5, 100, 7, 2);
    }

    private static void reckoning() {
        gives("ADD", 2, 5, 7, 100, 12);
        gives("SUB", 3, 5, 7, 100, -2);
        gives("MUL", 4, -5, 7, 100, -35);
    }

    private static void comparing() {
        gives("less", 5, -5, 7, 100, 1);
        gives("the same", 5, 7, 7, 100, 0);
        gives("greater", 5, 8, 7, 100, 0);
        gives("the least and the most", 5, MIN, MAX, 100, 1);
        gives("the most and the least", 5, MAX, MIN, 100, 0);
    }

    private static void dividing() {
        gives("downward", 6, 7, 2, 100, 3);
        gives("toward 0", 6, -7, 2, 100, -3);
        gives("by one below 0", 6, 7, -2, 100, -3);
        gives("by more", 6, 3, 4, 100, 0);
        gives("none", 6, 0, 4, 100, 0);
        gives("by the least", 6, MIN, MIN, 0, 1);
    }

    private static void trapping() {
        for (int a : new int[] {0, 1, MIN}) {
            BundleMill mill = lay(new BundleMill(), jump(1), set(1, a), out(1), div(2, 1, 3),
                    out(1), store(0, 4, 1));
            lay(mill, halt(), out(1));
            mill.compile();
            mill.poke(4, 44);
            mill.run();
            CHECKS.same("a TRAP", mill.result(1), 1);
            CHECKS.same("nothing is put out behind it", mill.result(0), 1);
            CHECKS.same("nothing is stored behind it", mill.peek(4), 44);
            CHECKS.same("no block comes behind it", mill.result(2), 1);
        }
    }

    private static void loading() {
        gives("LOAD", 7, 3, 100, 2, 555);
        gives("by n alone", 7, 0, 100, 5, 555);
        gives("by a alone", 7, 5, 100, 0, 555);
        gives("n below 0", 7, 9, 100, -4, 555);
        gives("another cell", 7, 3, 100, 3, 0);
    }

    private static void storing() {
        BundleMill mill = halting(new BundleMill(), set(1, 40), set(2, -7),
                op(8, 3, 1, 2, -10, 0));
        mill.run();
        for (int address = 0; address < 64; address++) {
            CHECKS.same("cell " + address, mill.peek(address), address == 30 ? -7 : 0);
        }
        CHECKS.same("no variable is written", mill.variable(3), 0);
    }

    private static void puttingOut() {
        BundleMill mill = halting(new BundleMill(), set(1, 40), set(2, MIN), op(9, 3, 1, 2, 8, 0),
                op(9, 3, 2, 1, 8, 0));
        mill.run();
        CHECKS.same("how many", mill.result(0), 2);
        CHECKS.same("the first", mill.output(0), 40);
        CHECKS.same("the second", mill.output(1), MIN);
        CHECKS.same("no variable is written", mill.variable(3), 0);
    }

    /** Whether a SET is done that variable v guards, which has the value. */
    private static boolean isDone(int guard, int v, int value) {
        BundleMill mill = halting(new BundleMill(), set(v, value), guarded(guard, set(5, 50)));
        mill.run();
        return mill.variable(5) == 50;
    }

    private static void mustNotBeZero() {
        for (int v : new int[] {0, 1, 10, 11}) {
            for (int value : new int[] {1, -1, 2, 256, MIN, MAX}) {
                CHECKS.holds(v + " is " + value, isDone(1 + v, v, value));
            }
            CHECKS.holds(v + " is 0", !isDone(1 + v, v, 0));
        }
        CHECKS.holds("no guard", isDone(0, 0, 0));
    }

    private static void mustBeZero() {
        for (int v : new int[] {0, 1, 10, 11}) {
            for (int value : new int[] {1, -1, 2, 256, MIN, MAX}) {
                CHECKS.holds(v + " is " + value, !isDone(-1 - v, v, value));
            }
            CHECKS.holds(v + " is 0", isDone(-1 - v, v, 0));
        }
        CHECKS.holds("no guard", isDone(0, 0, 1));
    }

    private static void doesNothing() {
        for (int code = 0; code < 10; code++) {
            BundleMill mill = new BundleMill();
            for (int address = 0; address < 64; address++) {
                mill.poke(address, 1000);
            }
            halting(mill, set(1, 4), set(2, 3), set(3, 77), op(code, 3, 1, 2, 6, 5),
                    op(code, 3, 1, 2, 6, -2));
            mill.run();
            CHECKS.same("variable d of " + code, mill.variable(3), 77);
            CHECKS.same("outputs of " + code, mill.result(0), 0);
            CHECKS.same("memory of " + code, mill.peek(10), 1000);
        }
        BundleMill own = halting(new BundleMill(), set(3, 5), guarded(4, set(3, 0)),
                guarded(4, set(3, 9)));
        own.run();
        CHECKS.same("the guard is read first", own.variable(3), 0);
    }

    private static void isNoTrap() {
        BundleMill mill = halting(new BundleMill(), set(1, 4), guarded(1, div(2, 1, 0)),
                guarded(-2, div(2, 1, 0)), out(1));
        mill.run();
        CHECKS.same("no trap", mill.result(1), 0);
        CHECKS.same("the run goes on", mill.result(0), 1);
        BundleMill other = halting(new BundleMill(), set(1, 4), guarded(2, div(2, 1, 0)), out(1));
        other.run();
        CHECKS.same("a trap with the guard fulfilled", other.result(1), 1);
    }

    private static void halts() {
        BundleMill mill = lay(new BundleMill(), new int[] {0, 0, 1, 1}, set(0, 1), out(0));
        compiled(lay(mill, halt(), out(0)));
        mill.run();
        CHECKS.same("outputs", mill.result(0), 1);
        CHECKS.same("turns", mill.result(2), 1);
    }

    private static void jumps() {
        BundleMill mill = lay(new BundleMill(), new int[] {1, 0, 2, 1}, set(0, 10), out(0));
        lay(mill, halt(), set(0, 11), out(0));
        compiled(lay(mill, new int[] {1, 0, 1, 0}, set(0, 12), out(0)));
        mill.run();
        CHECKS.same("outputs", mill.result(0), 3);
        for (int i = 0; i < 3; i++) {
            CHECKS.same("output " + i, mill.output(i), new int[] {10, 12, 11}[i]);
        }
    }

    /** What is put out behind a BRANCH of variable v: 1 by t, 2 by f. */
    private static int way(int v, int value) {
        BundleMill mill = lay(new BundleMill(), branch(v, 1, 2), set(v, value));
        lay(mill, halt(), set(3, 1), out(3));
        compiled(lay(mill, halt(), set(3, 2), out(3)));
        mill.run();
        return mill.output(0);
    }

    private static void branches() {
        for (int v : new int[] {0, 5, 11}) {
            for (int value : new int[] {1, -1, 2, 256, MIN, MAX}) {
                CHECKS.same(v + " is " + value, way(v, value), 1);
            }
            CHECKS.same(v + " is 0", way(v, 0), 2);
        }
        for (int value = 0; value < 2; value++) {
            BundleMill same = lay(new BundleMill(), branch(0, 1, 1), set(0, value));
            compiled(lay(same, halt(), out(0)));
            same.run();
            CHECKS.same("t is f", same.output(0), value);
        }
    }

    private static void loops() {
        for (int count = 1; count < 5; count++) {
            BundleMill mill = counted(new BundleMill(), count, step(1, 1, 1), out(1), mul(2, 1, 1),
                    out(2));
            mill.run();
            CHECKS.same("outputs of " + count, mill.result(0), 2 * count);
            for (int i = 0; i < 2 * count; i++) {
                int time = i / 2 + 1;
                CHECKS.same("output " + i, mill.output(i), i % 2 == 0 ? time : time * time);
            }
        }
    }

    private static void comesTwice() {
        BundleMill mill = new BundleMill();
        lay(mill, jump(1), set(11, 2), set(7, 4));
        lay(mill, loop(11, 2), step(1, 1, 1));
        lay(mill, branch(2, 1, 3), out(1), less(2, 1, 7), add(11, 11, 7));
        compiled(lay(mill, halt()));
        mill.run();
        CHECKS.same("come to twice", mill.result(0), 2);
        CHECKS.same("2 times", mill.output(0), 2);
        CHECKS.same("and 6 times", mill.output(1), 8);
    }

    private static void loopsNever() {
        for (int count : new int[] {0, -1, MIN}) {
            BundleMill mill = counted(new BundleMill(), count, out(1), set(1, 7), store(0, 0, 11),
                    div(2, 1, 0));
            mill.run();
            CHECKS.same("outputs of " + count, mill.result(0), 0);
            CHECKS.same("variable", mill.variable(1), 0);
            CHECKS.same("memory", mill.peek(0), 0);
            CHECKS.same("no trap", mill.result(1), 0);
        }
    }

    private static void thenTComes() {
        for (int count = -1; count < 3; count++) {
            BundleMill mill = lay(new BundleMill(), jump(1), set(11, count));
            lay(mill, new int[] {3, 11, 3, 2});
            lay(mill, halt());
            compiled(lay(mill, halt(), out(11)));
            mill.run();
            CHECKS.same("t of " + count, mill.result(0), 1);
        }
    }
}
