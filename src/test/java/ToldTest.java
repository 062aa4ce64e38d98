/** Promises 10 to 12: result, output and variable. */
public final class ToldTest extends Written {
    private static final Checks CHECKS = new Checks("ToldTest");

    public static void main(String[] args) {
        CHECKS.sentence("0 how many numbers were put out", ToldTest::howMany);
        CHECKS.sentence("1 whether it trapped (1 or 0)", ToldTest::trapped);
        CHECKS.sentence("2 turns that it made", ToldTest::turns);
        CHECKS.sentence("a LOOP's all when it is come to", ToldTest::turnsOfLoops);
        CHECKS.sentence("result: 0 before any", ToldTest::beforeAny);
        CHECKS.sentence("IndexOutOfBoundsException: another what", ToldTest::anotherWhat);
        CHECKS.sentence("The i-th number that the latest run put out", ToldTest::outputs);
        CHECKS.sentence("IndexOutOfBoundsException: there is none", ToldTest::noOutput);
        CHECKS.sentence("or i is above 63", ToldTest::manyOutputs);
        CHECKS.sentence("A variable at the end of the latest run", ToldTest::variables);
        CHECKS.sentence("0 after a trap", ToldTest::afterTrap);
        CHECKS.sentence("and before any run", ToldTest::variablesBeforeAny);
        CHECKS.sentence("variable: there is none such", ToldTest::noVariable);
        CHECKS.end();
    }

    private static BundleMill run(BundleMill mill) {
        mill.run();
        return mill;
    }

    /** As many numbers are put out as the count says, then one more. */
    private static BundleMill numbers(int count) {
        BundleMill mill = lay(new BundleMill(), jump(1), set(11, count));
        lay(mill, loop(11, 2), step(1, 1, 3), out(1));
        return run(halting(mill, out(11)));
    }

    private static void howMany() {
        CHECKS.same("none", run(halting(new BundleMill(), set(0, 1))).result(0), 0);
        for (int count = 0; count < 99; count += 7) {
            CHECKS.same("outputs", numbers(count).result(0), count + 1);
        }
        int[][] outs = times(10, out(11));
        CHECKS.same("as many as can be", run(counted(new BundleMill(), 98, outs)).result(0), 980);
        CHECKS.same("not those with a guard that is not fulfilled", run(halting(new BundleMill(),
                guarded(1, out(1)), guarded(-1, out(1)))).result(0), 1);
    }

    private static void trapped() {
        CHECKS.same("no", run(halting(new BundleMill())).result(1), 0);
        BundleMill mill = run(halting(new BundleMill(), div(1, 2, 3)));
        CHECKS.same("it did", mill.result(1), 1);
        mill.erase();
        CHECKS.same("still", mill.result(1), 1);
        run(halting(mill, set(0, 3)));
        for (int time = 0; time < 4; time++) {
            CHECKS.same("the ones behind it didn't", mill.result(1), 0);
            CHECKS.same("their variable", mill.variable(0), 3);
            CHECKS.same("their cycles", mill.run(), 2);
        }
    }

    private static void turns() {
        CHECKS.same("one", run(halting(new BundleMill())).result(2), 1);
        BundleMill mill = lay(lay(new BundleMill(), jump(2)), halt());
        CHECKS.same("three", run(compiled(lay(mill, branch(0, 0, 1)))).result(2), 3);
        BundleMill trap = lay(new BundleMill(), jump(1));
        lay(trap, jump(2), div(1, 2, 3));
        CHECKS.same("with the one that trapped", run(halting(trap)).result(2), 2);
    }

    private static void turnsOfLoops() {
        for (int count : new int[] {1, 2, 97, 98, 99}) {
            CHECKS.same("that traps in its first time", run(counted(new BundleMill(), count,
                    div(1, 11, 2))).result(2), count + 1);
        }
        for (int count : new int[] {MIN, -1, 0}) {
            CHECKS.same("that is never done", run(counted(new BundleMill(), count,
                    div(1, 11, 2))).result(2), 3);
        }
    }

    private static void beforeAny() {
        BundleMill mill = new BundleMill();
        for (int what = 0; what < 3; what++) {
            CHECKS.same("a new object: " + what, mill.result(what), 0);
        }
        halting(mill, out(0), div(1, 2, 3));
        for (int what = 0; what < 3; what++) {
            CHECKS.same("compiled: " + what, mill.result(what), 0);
        }
    }

    private static void anotherWhat() {
        BundleMill mill = new BundleMill();
        for (int time = 0; time < 2; time++) {
            for (int what : new int[] {-1, 3, 4, MIN, MAX}) {
                CHECKS.refuses(Checks.INDEX, "result " + what, () -> mill.result(what));
            }
            mill.erase();
            run(halting(mill, out(0)));
        }
    }

    private static void outputs() {
        BundleMill mill = numbers(62);
        for (int i = 0; i < 62; i++) {
            CHECKS.same("output " + i, mill.output(i), 3 * i + 3);
        }
        CHECKS.same("the last one", mill.output(62), 62);
        mill.erase();
        run(halting(mill, set(1, MIN), out(1), out(2)));
        CHECKS.same("the latest run's", mill.output(0), MIN);
        CHECKS.same("its second", mill.output(1), 0);
        CHECKS.refuses(Checks.INDEX, "not the one before's", () -> mill.output(2));
    }

    private static void noOutput() {
        for (int count = 0; count < 63; count += 31) {
            BundleMill mill = numbers(count);
            for (int i : new int[] {-1, count + 1, count + 2, 63, 64, MIN, MAX}) {
                CHECKS.refuses(Checks.INDEX, i + " of " + (count + 1), () -> mill.output(i));
            }
            CHECKS.same("the last one", mill.output(count), count);
        }
        BundleMill none = new BundleMill();
        CHECKS.refuses(Checks.INDEX, "before any run", () -> none.output(0));
        run(halting(none));
        CHECKS.refuses(Checks.INDEX, "of a run without one", () -> none.output(0));
    }

    private static void manyOutputs() {
        for (int count = 63; count < 67; count++) {
            BundleMill mill = numbers(count);
            CHECKS.same("all count", mill.result(0), count + 1);
            CHECKS.same("number 63", mill.output(63), count == 63 ? 63 : 3 * 64);
            for (int i : new int[] {64, 65, 66, 127, 128}) {
                CHECKS.refuses(Checks.INDEX, i + " of " + (count + 1), () -> mill.output(i));
            }
        }
        BundleMill most = run(counted(new BundleMill(), 98, times(10, out(11))));
        CHECKS.same("the last that can be asked for", most.output(63), 98);
        CHECKS.refuses(Checks.INDEX, "64 of 980", () -> most.output(64));
    }

    private static void variables() {
        BundleMill mill = numbers(4);
        CHECKS.same("variable 11", mill.variable(11), 4);
        CHECKS.same("variable 1", mill.variable(1), 12);
        CHECKS.same("one not written", mill.variable(0), 0);
        mill.erase();
        run(halting(mill, set(0, MIN), set(10, MAX), set(10, -1)));
        for (int time = 0; time < 3; time++) {
            CHECKS.same("variable 0 of the next run", mill.variable(0), MIN);
            CHECKS.same("written twice", mill.variable(10), -1);
            CHECKS.same("one of a run before", mill.variable(11), 0);
            mill.run();
        }
    }

    private static void afterTrap() {
        BundleMill mill = lay(new BundleMill(), jump(1), set(0, 5), set(11, 6), mul(3, 11, 11));
        run(halting(mill, div(1, 0, 2)));
        for (int v = 0; v < 12; v++) {
            CHECKS.same("variable " + v, mill.variable(v), 0);
        }
        mill.erase();
        run(halting(mill, set(1, 1)));
        CHECKS.same("the next run's", mill.variable(1), 1);
        CHECKS.same("nothing of the one that trapped", mill.variable(11), 0);
        mill.erase();
        run(halting(mill, div(1, 1, 1)));
        CHECKS.same("nothing of the one ahead of a trap", mill.variable(1), 0);
    }

    private static void variablesBeforeAny() {
        BundleMill mill = new BundleMill();
        for (int v = 0; v < 12; v++) {
            CHECKS.same("variable " + v, mill.variable(v), 0);
        }
        halting(mill, set(1, 1));
        CHECKS.same("compiled", mill.variable(1), 0);
        mill.run();
        CHECKS.same("and run", mill.variable(1), 1);
    }

    private static void noVariable() {
        BundleMill mill = new BundleMill();
        for (String when : new String[] {"new", "run", "trapped"}) {
            for (int v : new int[] {-1, 12, 13, MIN, MAX}) {
                CHECKS.refuses(Checks.INDEX, when + ": " + v, () -> mill.variable(v));
            }
            CHECKS.same(when + ": 11", mill.variable(11), 0);
            int[][] ops = when.equals("new") ? times(1, set(0, 1)) : times(1, div(1, 2, 3));
            mill.erase();
            run(halting(mill, ops));
        }
    }
}
