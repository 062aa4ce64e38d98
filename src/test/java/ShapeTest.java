/** Promises 13, 14 and 16: shape, place and filled. */
public final class ShapeTest extends Written {
    private static final Checks CHECKS = new Checks("ShapeTest");
    private static final int[] FAR = {MIN, -100, -1, 6, 7, 100, MAX};

    public static void main(String[] args) {
        CHECKS.sentence("0 how many operations", ShapeTest::operations);
        CHECKS.sentence("1 L", ShapeTest::lengths);
        CHECKS.sentence("2 MII, 3 II, 4 STAGES", ShapeTest::loops);
        CHECKS.sentence("2 to 4: 0 when it's no LOOP", ShapeTest::noLoop);
        CHECKS.sentence("or has no operations", ShapeTest::emptyLoop);
        CHECKS.sentence("3 and 4: 0 also when no II goes", ShapeTest::noneGoes);
        CHECKS.sentence("5 how it ends", ShapeTest::ends);
        CHECKS.sentence("6 its t", ShapeTest::nexts);
        CHECKS.sentence("z, when it got guards", ShapeTest::nextOfGuards);
        CHECKS.sentence("a HALT's as told", ShapeTest::nextOfHalts);
        CHECKS.sentence("IllegalStateException: it must be compiled", ShapeTest::notCompiled);
        CHECKS.sentence("NoSuchElementException: there is no such block", ShapeTest::noBlock);
        CHECKS.sentence("or it is gone", ShapeTest::goneBlock);
        CHECKS.sentence("shape: IndexOutOfBoundsException: another what", ShapeTest::anotherWhat);
        places();
        filled();
        CHECKS.end();
    }

    private static void places() {
        CHECKS.sentence("place: 0 its code, 1 its guard", ShapeTest::codesAndGuards);
        CHECKS.sentence("2 its height, 3 its cycle by list", ShapeTest::heightsAndCycles);
        CHECKS.sentence("4 by modulo", ShapeTest::cyclesByModulo);
        CHECKS.sentence("NONE where there's none", ShapeTest::noneByModulo);
        CHECKS.sentence("also NoSuchElementException: no such operation",
                ShapeTest::noOperation);
        CHECKS.sentence("place: another what", ShapeTest::placeOfAnother);
    }

    private static void filled() {
        CHECKS.sentence("operations / (rows * units)", ShapeTest::filledRows);
        CHECKS.sentence("those of the modulo schedule, if there is one", ShapeTest::filledLoops);
        CHECKS.sentence("0.0 without operations", ShapeTest::filledByNone);
    }

    private static void operations() {
        for (int count = 0; count <= 10; count++) {
            CHECKS.same("count", halting(new BundleMill(), times(count, set(0, 0))).shape(0, 0),
                    count);
        }
        BundleMill mill = lay(new BundleMill(), branch(0, 1, 2), set(1, 0));
        lay(mill, jump(2), set(1, 0), set(2, 0));
        CHECKS.same("with those of one that is gone", halting(mill, out(1)).shape(0, 0), 3);
        CHECKS.same("of the other", mill.shape(2, 0), 1);
    }

    private static void lengths() {
        CHECKS.same("none", halting(new BundleMill()).shape(0, 1), 0);
        CHECKS.same("a MUL", halting(new BundleMill(), mul(1, 2, 2)).shape(0, 1), 3);
        CHECKS.same("a LOOP's", looping(new BundleMill(), mul(1, 2, 2)).shape(0, 1), 3);
    }

    private static void shape(String what, BundleMill mill, int block, int... due) {
        for (int k = 0; k < 3; k++) {
            CHECKS.same(what + ": " + (k + 2), mill.shape(block, k + 2), due[k]);
        }
    }

    private static void loops() {
        shape("all 1", looping(new BundleMill(), set(1, 0)), 0, 1, 1, 1);
        shape("all other", looping(machine(2, 1, 1, 2, 8, 2), step(1, 1, -1), mul(1, 3, 3),
                op(3, 2, 1, 3, -1, 0)), 0, 2, 3, 1);
        shape("more stages", looping(machine(4, 2, 1, 8, 8, 8), mul(1, 2, 2), out(1)), 0, 1, 1, 9);
    }

    private static void noLoop() {
        for (int[] end : new int[][] {halt(), jump(0), branch(0, 0, 0)}) {
            shape("end " + end[0], compiled(lay(new BundleMill(), end, mul(1, 1, 1))), 0, 0, 0, 0);
        }
        BundleMill mill = looping(new BundleMill(), set(1, 0));
        shape("a LOOP", mill, 0, 1, 1, 1);
        mill.erase();
        shape("a HALT where the LOOP was", halting(mill, set(1, 0)), 0, 0, 0, 0);
    }

    private static void emptyLoop() {
        BundleMill mill = looping(new BundleMill());
        shape("empty", mill, 0, 0, 0, 0);
        CHECKS.same("it ends as a LOOP", mill.shape(0, 5), 3);
        mill.erase();
        shape("a LOOP", looping(mill, set(1, 0)), 0, 1, 1, 1);
        mill.erase();
        shape("empty where a LOOP was", looping(mill), 0, 0, 0, 0);
    }

    private static void noneGoes() {
        BundleMill mill = looping(machine(1, 1, 1, 1, 8, 2), mul(1, 2, 2));
        mill.erase();
        shape("none goes", looping(mill, store(3, 0, 1), out(1), load(3, 1, 0)), 0, 3, 0, 0);
        CHECKS.same("L", mill.shape(0, 1), 3);
    }

    private static void ends() {
        BundleMill mill = new BundleMill();
        for (int x = 0; x < 6; x++) {
            mill.block(3 - x % 4, 0, 5, 5);
        }
        mill.compile();
        for (int x = 0; x < 6; x++) {
            CHECKS.same("end of " + x, mill.shape(x, 5), 3 - x % 4);
        }
    }

    private static void nexts() {
        for (int t = 0; t < 6; t++) {
            BundleMill mill = new BundleMill();
            for (int end = 0; end < 6; end++) {
                mill.block(end % 4, 0, t, t);
            }
            mill.compile();
            for (int end = 0; end < 6; end++) {
                CHECKS.same("t of end " + end % 4, mill.shape(end, 6), t);
            }
        }
    }

    private static void nextOfGuards() {
        BundleMill mill = lay(new BundleMill(), branch(0, 1, 2), set(1, 0));
        lay(lay(lay(mill, jump(3)), jump(3)), halt());
        mill.compile();
        CHECKS.same("it ends with a JUMP", mill.shape(0, 5), 1);
        CHECKS.same("to z", mill.shape(0, 6), 3);
        BundleMill stays = lay(lay(new BundleMill(), branch(0, 1, 2)), halt());
        halting(stays);
        CHECKS.same("a BRANCH that stays", stays.shape(0, 5), 2);
        CHECKS.same("its t", stays.shape(0, 6), 1);
    }

    private static void nextOfHalts() {
        for (int t = 0; t < 6; t++) {
            BundleMill mill = compiled(lay(new BundleMill(), new int[] {0, 0, t, 5 - t}));
            CHECKS.same("t " + t, mill.shape(0, 6), t);
        }
    }

    private static void notCompiled() {
        BundleMill mill = looping(new BundleMill(), set(1, 0));
        CHECKS.same("compiled", mill.shape(0, 3), 1);
        mill.machine(1, 1, 1, 1, 1, 1);
        for (int block : new int[] {0, -1, 6}) {
            for (int k : new int[] {0, -1, 10}) {
                CHECKS.refuses(Checks.STATE, "shape", () -> mill.shape(block, k));
                CHECKS.refuses(Checks.STATE, "place", () -> mill.place(block, k, 9));
                CHECKS.refuses(Checks.STATE, "place", () -> mill.place(block, 0, k));
            }
            CHECKS.refuses(Checks.STATE, "filled", () -> mill.filled(block));
        }
        mill.compile();
        CHECKS.same("compiled anew", mill.shape(0, 3), 1);
    }

    private static void noBlock() {
        for (int blocks = 1; blocks <= 6; blocks++) {
            BundleMill mill = new BundleMill();
            for (int x = 0; x < blocks; x++) {
                lay(mill, halt(), set(0, 0));
            }
            mill.compile();
            CHECKS.same("the last one", mill.shape(blocks - 1, 0), 1);
            for (int block : new int[] {blocks, -1, 6, MIN, MAX}) {
                CHECKS.refuses(Checks.ELEMENT, "shape", () -> mill.shape(block, 0));
                CHECKS.refuses(Checks.ELEMENT, "shape and what", () -> mill.shape(block, 7));
                CHECKS.refuses(Checks.ELEMENT, "place", () -> mill.place(block, 0, 0));
                CHECKS.refuses(Checks.ELEMENT, "place and what", () -> mill.place(block, 0, 5));
                CHECKS.refuses(Checks.ELEMENT, "filled", () -> mill.filled(block));
            }
        }
    }

    private static void goneBlock() {
        BundleMill mill = lay(new BundleMill(), branch(0, 1, 2));
        lay(mill, jump(2), set(1, 0));
        halting(mill, set(1, 0));
        CHECKS.refuses(Checks.ELEMENT, "shape", () -> mill.shape(1, 0));
        CHECKS.refuses(Checks.ELEMENT, "shape and what", () -> mill.shape(1, -1));
        CHECKS.refuses(Checks.ELEMENT, "place", () -> mill.place(1, 0, 0));
        CHECKS.refuses(Checks.ELEMENT, "filled", () -> mill.filled(1));
        CHECKS.same("the one behind it", mill.shape(2, 0), 1);
        lay(mill, jump(1));
        mill.compile();
        CHECKS.same("it is there when it is not taken", mill.shape(1, 0), 1);
    }

    private static void anotherWhat() {
        BundleMill mill = looping(new BundleMill(), set(1, 0));
        for (int what : new int[] {-1, 7, 8, MIN, MAX}) {
            CHECKS.refuses(Checks.INDEX, "of a LOOP: " + what, () -> mill.shape(0, what));
            CHECKS.refuses(Checks.INDEX, "of a HALT: " + what, () -> mill.shape(1, what));
        }
    }

    private static void codesAndGuards() {
        BundleMill mill = lay(new BundleMill(), halt());
        for (int k = 0; k < 10; k++) {
            operate(mill, op(9 - k, 1, 2, 3, 4, k - 5));
        }
        mill.compile();
        for (int k = 0; k < 10; k++) {
            CHECKS.same("code of " + k, mill.place(0, k, 0), 9 - k);
            CHECKS.same("guard of " + k, mill.place(0, k, 1), k - 5);
        }
    }

    private static void heightsAndCycles() {
        BundleMill mill = halting(new BundleMill(), set(1, 0), mul(2, 9, 9), set(3, 0),
                step(4, 3, 0), out(4));
        int[] heights = {1, 3, 3, 2, 1};
        int[] cycles = {1, 0, 0, 1, 2};
        for (int k = 0; k < 5; k++) {
            CHECKS.same("height of " + k, mill.place(0, k, 2), heights[k]);
            CHECKS.same("cycle of " + k, mill.place(0, k, 3), cycles[k]);
        }
    }

    private static void cyclesByModulo() {
        BundleMill mill = looping(new BundleMill(), load(1, 0, 0), mul(2, 1, 1), step(0, 0, 1),
                add(3, 3, 2));
        int[] lists = {0, 2, 0, 5};
        int[] modulos = {0, 2, 0, 5};
        for (int k = 0; k < 4; k++) {
            CHECKS.same("by list " + k, mill.place(0, k, 3), lists[k]);
            CHECKS.same("by modulo " + k, mill.place(0, k, 4), modulos[k]);
        }
        BundleMill other = looping(machine(4, 2, 1, 8, 8, 8), out(1), mul(1, 2, 2));
        CHECKS.same("by list", other.place(0, 0, 3), 0);
        CHECKS.same("by modulo", other.place(0, 0, 4), 7);
    }

    private static void noneByModulo() {
        for (int[] end : new int[][] {halt(), jump(0), branch(0, 0, 0)}) {
            CHECKS.same("end " + end[0], compiled(lay(new BundleMill(), end, set(1, 1)))
                    .place(0, 0, 4), BundleMill.NONE);
        }
        BundleMill mill = looping(machine(1, 1, 1, 1, 8, 2), store(3, 0, 1), out(1),
                load(3, 1, 0));
        for (int k = 0; k < 3; k++) {
            CHECKS.same("no II goes", mill.place(0, k, 4), BundleMill.NONE);
        }
    }

    private static void noOperation() {
        for (int count = 0; count <= 10; count++) {
            BundleMill mill = halting(new BundleMill(), times(count, set(0, 0)));
            for (int k : new int[] {-1, count, 10, MIN, MAX}) {
                CHECKS.refuses(Checks.ELEMENT, k + " of " + count, () -> mill.place(0, k, 0));
                CHECKS.refuses(Checks.ELEMENT, "and what", () -> mill.place(0, k, 5));
            }
        }
        BundleMill ten = halting(new BundleMill(), times(10, set(0, 0)));
        CHECKS.same("the tenth", ten.place(0, 9, 0), 0);
    }

    private static void placeOfAnother() {
        BundleMill mill = looping(new BundleMill(), set(1, 0));
        for (int what : new int[] {-1, 5, 6, MIN, MAX}) {
            CHECKS.refuses(Checks.INDEX, "what " + what, () -> mill.place(0, 0, what));
        }
        for (int block : FAR) {
            CHECKS.refuses(Checks.ELEMENT, "no block " + block, () -> mill.place(block, 0, 5));
        }
    }

    private static void filledRows() {
        for (int alus = 1; alus <= 4; alus++) {
            for (int ports = 1; ports <= 2; ports++) {
                BundleMill mill = halting(machine(alus, ports, 1, 3, 1, 1), set(0, 0),
                        mul(1, 9, 9), load(2, 9, 0), out(9));
                int rows = mill.shape(0, 1);
                CHECKS.same("units " + alus + ", " + ports, mill.filled(0),
                        4 / (rows * (double) (alus + ports)));
            }
        }
        CHECKS.same("all", halting(machine(1, 1, 1, 1, 1, 1), set(0, 0), out(9)).filled(0), 1.0);
        CHECKS.same("a third", halting(new BundleMill(), set(0, 0)).filled(0), 1 / 3.0);
        CHECKS.same("rows without operations, too", halting(new BundleMill(), div(0, 9, 9))
                .filled(0), 1 / 24.0);
    }

    private static void filledLoops() {
        BundleMill mill = looping(new BundleMill(), load(1, 0, 0), mul(2, 1, 1), step(0, 0, 1),
                add(3, 3, 2));
        CHECKS.same("of II rows", mill.filled(0), 4 / 6.0);
        BundleMill list = looping(machine(1, 1, 1, 1, 8, 2), store(3, 0, 1), out(1),
                load(3, 1, 0));
        CHECKS.same("of L rows when none goes", list.filled(0), 3 / 6.0);
        BundleMill one = looping(machine(4, 2, 8, 8, 8, 8), mul(1, 2, 2));
        CHECKS.same("one row of six", one.filled(0), 1 / 6.0);
    }

    private static void filledByNone() {
        for (int[] end : new int[][] {halt(), jump(0), branch(0, 0, 0), loop(0, 0)}) {
            CHECKS.same("end " + end[0], compiled(lay(new BundleMill(), end)).filled(0), 0.0);
        }
        BundleMill mill = lay(new BundleMill(), branch(0, 1, 2));
        CHECKS.same("with guards of none", halting(lay(mill, jump(2))).filled(0), 0.0);
    }
}
