/** Terms, EDGES of memory: which LOADs and STOREs meet, and in which time. */
public final class MeetTest extends Written {
    private static final Checks CHECKS = new Checks("MeetTest");
    private static final int[] LOAD = load(4, 1, 0);
    private static final int[] STEP = step(1, 1, 1);

    public static void main(String[] args) {
        CHECKS.sentence("Both are LOAD or STORE, not both LOAD", MeetTest::whichPairs);
        CHECKS.sentence("delay 1 when i is STORE, else 0", MeetTest::delays);
        CHECKS.sentence("The OFFSET of such an operation is its n", MeetTest::offsets);
        CHECKS.sentence("written by one operation alone, which is a STEP from a to a without a"
                + " guard", MeetTest::stepped);
        CHECKS.sentence("is written in the block", MeetTest::eachBlock);
        CHECKS.sentence("its n is the AMOUNT of a", MeetTest::amounts);
        CHECKS.sentence("and is added to the offset of those behind it", MeetTest::behindTheStep);
        CHECKS.sentence("A variable that isn't written has the amount 0", MeetTest::notWritten);
        CHECKS.sentence("one that is written otherwise is LOOSE", MeetTest::loose);
        CHECKS.sentence("at the least distance k from 0 (i before j)", MeetTest::fromZero);
        CHECKS.sentence("or 1 (otherwise)", MeetTest::fromOne);
        CHECKS.sentence("to 64", MeetTest::farDistances);
        CHECKS.sentence("is a multiple of 64", MeetTest::multiples);
        CHECKS.sentence("without such a k not at all", MeetTest::without);
        CHECKS.sentence("with one above 0 when the block doesn't end with LOOP, not at all",
                MeetTest::aboveZero);
        CHECKS.sentence("All others meet at 0, or 1", MeetTest::others);
        CHECKS.end();
    }

    private static BundleMill wide() {
        return machine(4, 2, 2, 3, 8, 4);
    }

    /** Two operations, and what may follow: the first's height, and the second's cycle. */
    private static void pair(String what, int height, int cycle, int[]... ops) {
        BundleMill mill = halting(wide(), ops);
        CHECKS.same(what + ": height", mill.place(0, 0, 2), height);
        CHECKS.same(what + ": second cycle", mill.place(0, 1, 3), cycle);
        BundleMill loop = looping(wide(), ops);
        CHECKS.same(what + ": height in a LOOP", loop.place(0, 0, 2), height);
        CHECKS.same(what + ": second cycle in a LOOP", loop.place(0, 1, 3), cycle);
    }

    /** A STORE and the LOAD behind it, of variable 1. */
    private static void meet(String what, int[]... ops) {
        pair(what, 5, 1, ops);
    }

    private static void apart(String what, int[]... ops) {
        pair(what, 1, 0, ops);
    }

    private static void whichPairs() {
        pair("STORE, LOAD", 5, 1, store(1, 0, 2), LOAD);
        pair("STORE, STORE", 2, 1, store(1, 0, 2), store(1, 0, 2));
        pair("LOAD, LOAD", 4, 0, LOAD, load(5, 1, 0));
        pair("LOAD, LOAD that is higher", 4, 0, LOAD, load(5, 1, 0), div(6, 5, 5));
        pair("LOAD, STORE", 4, 0, LOAD, store(1, 0, 2));
        pair("STORE, SET", 1, 0, store(1, 0, 2), set(4, 0));
        pair("STORE, OUT", 1, 0, store(1, 0, 2), out(1));
        pair("LOAD, OUT", 4, 0, LOAD, out(1));
        CHECKS.same("LOADs don't meet the next time", looping(wide(), LOAD, load(5, 1, 0))
                .shape(0, 2), 1);
        CHECKS.same("LOAD and STORE do", looping(wide(), LOAD, store(1, 0, 2)).shape(0, 2), 1);
        CHECKS.same("two STOREs do", looping(wide(), store(1, 0, 2), store(1, 0, 3)).shape(0, 2),
                2);
        CHECKS.same("two of other cells don't", looping(wide(), store(1, 0, 2), store(1, 1, 3))
                .shape(0, 2), 1);
    }

    private static void delays() {
        BundleMill mill = halting(wide(), LOAD, store(1, 0, 2), load(5, 1, 0), div(6, 5, 5));
        CHECKS.same("STORE, LOAD: 1", mill.place(0, 1, 2), 1 + 4 + 8);
        CHECKS.same("LOAD, STORE: 0", mill.place(0, 0, 2), 13);
        CHECKS.same("the STORE beside the LOAD", mill.place(0, 1, 3), 0);
        CHECKS.same("the LOAD one behind the STORE", mill.place(0, 2, 3), 1);
        BundleMill stores = halting(wide(), store(1, 0, 2), store(1, 0, 3), load(5, 1, 0));
        CHECKS.same("STORE, STORE: 1", stores.place(0, 0, 2), 1 + 1 + 4);
        CHECKS.same("cycle", stores.place(0, 2, 3), 2);
        BundleMill order = halting(wide(), set(2, 7), store(1, 0, 2), store(1, 0, 3));
        order.poke(0, 5);
        order.run();
        CHECKS.same("the second STORE stays", order.peek(0), 0);
    }

    private static void offsets() {
        meet("0 and 0", store(1, 0, 2), LOAD);
        meet("7 and 7", store(1, 7, 2), load(4, 1, 7));
        meet("-7 and -7", store(1, -7, 2), load(4, 1, -7));
        apart("1 and 0", store(1, 1, 2), LOAD);
        apart("0 and 1", store(1, 0, 2), load(4, 1, 1));
        apart("7 and -7", store(1, 7, 2), load(4, 1, -7));
        meet("the same with other guards", guarded(3, store(1, 7, 2)),
                guarded(-3, load(4, 1, 7)));
        apart("other cells with the same b and d", op(8, 4, 1, 4, 5, 0), op(7, 5, 1, 4, 6, 0));
    }

    private static void stepped() {
        int[] one = store(1, 1, 2);
        apart("a STEP", one, LOAD, STEP);
        apart("a STEP by none", one, LOAD, step(1, 1, 0));
        meet("with a guard", one, LOAD, guarded(6, STEP));
        meet("with a guard that must be 0", one, LOAD, guarded(-6, STEP));
        meet("from another variable", one, LOAD, step(1, 2, 1));
        meet("two STEPs", one, LOAD, STEP, STEP);
        meet("a STEP and a SET", one, LOAD, set(1, 0), STEP);
        meet("a STEP and a guarded SET", one, LOAD, STEP, guarded(10, set(1, 0)));
        apart("a STEP to another variable", one, LOAD, step(3, 1, 1));
        apart("a STEP, and others of other variables", one, LOAD, STEP, step(2, 2, 1), set(3, 0));
        apart("a STEP, and an OUT whose d it is", one, LOAD, STEP, op(9, 1, 5, 5, 0, 0));
    }

    /** What was found for one block tells nothing of the next one, nor of a later program. */
    private static void eachBlock() {
        BundleMill mill = lay(wide(), jump(1), store(1, 1, 2), LOAD, set(1, 0));
        lay(mill, jump(2), store(1, 1, 2), LOAD);
        lay(mill, loop(9, 3), store(1, 1, 2), LOAD, step(1, 1, 5));
        lay(mill, jump(4), store(1, 1, 2), LOAD);
        halting(mill, store(1, 1, 2), load(4, 1, 1));
        int[] due = {1, 0, 0, 0, 1};
        for (int x = 0; x < due.length; x++) {
            CHECKS.same("LOAD's cycle in " + x, mill.place(x, 1, 3), due[x]);
        }
        BundleMill loops = lay(wide(), loop(11, 1), load(4, 1, 0), step(1, 1, 1), add(5, 4, 6),
                store(1, 1, 5));
        lay(loops, loop(11, 2), load(4, 1, 0), step(9, 9, 1), add(5, 4, 6), store(1, 0, 5));
        lay(loops, loop(11, 3), load(4, 1, 0), step(9, 9, 1), add(5, 4, 6), store(1, 1, 5));
        halting(loops);
        CHECKS.same("two times behind: MII", loops.shape(0, 2), 4);
        CHECKS.same("the next time: MII", loops.shape(1, 2), 7);
        CHECKS.same("never: MII", loops.shape(2, 2), 2);
    }

    /**
     * A cell is loaded, changed and stored, in 4 + 2 + 1 cycles until it can be loaded again: by
     * the way over the address and its STEP between them in two times at the soonest.
     */
    private static void ring(String what, int due, int offset, int[] step) {
        BundleMill mill = looping(wide(), load(4, 1, 0), step, add(5, 4, 6), store(1, offset, 5));
        CHECKS.same(what + ": MII", mill.shape(0, 2), due);
    }

    private static void amounts() {
        for (int amount : new int[] {1, -1, 2, 3, 5, 63, 64, -64, 0, MAX, MIN}) {
            ring("what is stored is loaded, by " + amount, 7, 0, step(1, 1, amount));
        }
        for (int amount : new int[] {1, -1, 2, 3, 5, 63, MAX}) {
            ring("two times behind, by " + amount, 4, amount, step(1, 1, amount));
            ring("never, or far behind, by " + amount, 4, -amount, step(1, 1, amount));
        }
        ring("one cell off by none", 4, 1, step(1, 1, 0));
    }

    private static void behindTheStep() {
        ring("LOAD, STEP, STORE: the same n", 7, 0, STEP);
        ring("one more", 4, 1, STEP);
        ring("one less", 4, -1, STEP);
        BundleMill ahead = looping(wide(), STEP, load(4, 1, 0), add(5, 4, 6), store(1, 0, 5));
        CHECKS.same("STEP, LOAD, STORE", ahead.shape(0, 2), 7);
        storedFirst("STORE, LOAD, STEP: the same cell", 7, 0);
        storedFirst("the next time", 4, 1);
        storedFirst("never again", 4, -1);
    }

    /** What one time puts into v5 the next time stores. */
    private static void storedFirst(String what, int due, int offset) {
        BundleMill mill = looping(wide(), store(1, offset, 5), load(4, 1, 0), add(5, 4, 6), STEP);
        CHECKS.same("stored first, " + what + ": MII", mill.shape(0, 2), due);
    }

    private static void notWritten() {
        int[] other = step(9, 9, 1);
        ring("the same cell", 7, 0, other);
        ring("another cell", 2, 1, other);
        ring("64 cells on", 7, 64, other);
        apart("another cell in a block", store(1, 3, 2), load(4, 1, 4));
    }

    private static void loose() {
        int[] one = store(1, 1, 2);
        for (int code = 0; code < 8; code++) {
            int height = code == 6 ? 1 + 8 : 1 + 4;
            pair("written by code " + code, height, 1, one, LOAD, op(code, 1, 2, 2, 1, 0));
            if (code != 1) {
                pair("from a, by code " + code, height, 1, one, LOAD, op(code, 1, 1, 1, 1, 0));
            }
        }
        meet("by the LOAD itself", one, load(1, 1, 0));
        BundleMill ahead = halting(wide(), set(1, 0), one, LOAD);
        CHECKS.same("by a SET ahead", ahead.place(0, 2, 3), ahead.place(0, 1, 3) + 1);
        BundleMill steps = halting(wide(), STEP, one, LOAD, STEP);
        CHECKS.same("by STEPs ahead and behind", steps.place(0, 2, 3), steps.place(0, 1, 3) + 1);
        ring("a guarded STEP", 7, 1, guarded(9, STEP));
        ring("a guarded STEP, one less", 7, -1, guarded(-9, STEP));
        ring("a STEP from another", 7, 1, step(1, 9, 1));
        ring("a SET", 7, 1, set(1, 5));
    }

    private static void fromZero() {
        meet("not written", store(1, 0, 2), LOAD);
        meet("stepped behind", store(1, 0, 2), LOAD, STEP);
        meet("stepped by 64", store(1, 0, 2), LOAD, step(1, 1, 64));
        BundleMill ahead = halting(wide(), STEP, store(1, 0, 2), LOAD);
        CHECKS.same("stepped ahead", ahead.place(0, 2, 3), ahead.place(0, 1, 3) + 1);
        BundleMill other = halting(wide(), STEP, store(1, 1, 2), LOAD);
        CHECKS.same("stepped ahead, another cell", other.place(0, 2, 3), other.place(0, 1, 3));
        pair("meet at 0, not at 1, in a LOOP", 5, 1, store(1, 0, 2), LOAD, step(1, 1, 2));
    }

    private static void fromOne() {
        BundleMill same = looping(wide(), LOAD, add(5, 4, 6), store(1, 0, 5));
        CHECKS.same("the cell of the next time", same.shape(0, 2), 4 + 2 + 1);
        BundleMill one = looping(machine(1, 1, 1, 1, 1, 1), store(1, 0, 2));
        CHECKS.same("a STORE and itself", one.shape(0, 2), 1);
        CHECKS.same("it goes", one.shape(0, 3), 1);
        ring("the next time", 7, 0, STEP);
        ring("two times behind", 4, 1, STEP);
    }

    /** II, STAGES and the cycles by modulo of LOOPs whose operations meet in 2 to 13 times. */
    private static void farDistances() {
        far("2", machine(4, 1, 2, 3, 8, 5), new int[][] {load(2, 1, -3), step(1, 1, -2),
            load(5, 1, -1), store(1, -5, 2)}, 3, 3, 3, 4, 7, 8);
        far("3", machine(2, 1, 1, 1, 8, 2), new int[][] {store(1, 2, 2), store(1, -1, 4),
            load(2, 1, 2), STEP}, 3, 4, 10, 9, 11, 11);
        far("4", machine(1, 1, 1, 1, 8, 4), new int[][] {store(1, 29, 5), load(4, 1, 25),
            load(5, 1, -2), load(5, 1, -1), STEP}, 4, 6, 21, 20, 18, 19, 21);
        far("5", machine(4, 1, 2, 3, 8, 2), new int[][] {store(1, -2, 4), store(1, -12, 2),
            load(4, 1, -2), step(1, 1, 2)}, 3, 6, 16, 15, 17, 16);
        far("6", machine(3, 1, 1, 1, 8, 3), new int[][] {load(3, 1, 2), store(1, -10, 4),
            store(1, 2, 2), load(2, 1, 2), step(1, 1, 2)}, 4, 7, 24, 25, 26, 27, 27);
        far("7", machine(1, 1, 1, 1, 8, 2), new int[][] {store(1, 9, 3), store(1, 2, 2),
            load(2, 1, 2), step(1, 1, -1)}, 3, 8, 21, 22, 23, 23);
        far("9", machine(1, 1, 1, 5, 8, 4), new int[][] {store(1, -21, 3), store(1, -1, 5),
            load(4, 1, 27), load(3, 1, 0), load(4, 1, -2), load(3, 1, 26), step(1, 1, 3)}, 6, 10,
                57, 56, 54, 55, 58, 59, 59);
        far("12", machine(1, 1, 3, 3, 8, 2), new int[][] {store(1, 2, 4), mul(3, 4, 3),
            store(1, -26, 2), store(1, -2, 5), load(4, 1, 14), load(5, 1, -2), step(1, 1, 2)}, 5,
                13, 60, 60, 61, 62, 63, 64, 62);
        far("13", machine(1, 1, 1, 1, 8, 2), new int[][] {store(1, -27, 5), store(1, -1, 2),
            store(1, 19, 5), add(3, 4, 3), store(1, 3, 5), load(2, 1, -1), step(1, 1, 2)}, 5, 14,
                65, 66, 67, 0, 68, 69, 69);
    }

    private static void far(String distance, BundleMill mill, int[][] ops, int... due) {
        looping(mill, ops);
        for (int k = 0; k < due.length; k++) {
            CHECKS.same("in " + distance + " times: " + k,
                    k < 2 ? mill.shape(0, 3 + k) : mill.place(0, k - 2, 4), due[k]);
        }
    }

    private static void multiples() {
        for (int far : new int[] {64, -64, 128, 6400, MIN, MAX - 63}) {
            meet(far + " and 0", store(1, far, 2), LOAD);
            meet("0 and " + far, store(1, 0, 2), load(4, 1, far));
            ring("by one, " + far, 7, far, STEP);
            ring("two times behind, " + far, 4, far + 1, STEP);
            apart(far + " and 1", store(1, far, 2), load(4, 1, 1));
        }
        meet("the most and -1", store(1, MAX, 2), load(4, 1, -1));
        apart("32 and 0", store(1, 32, 2), LOAD);
        ring("by 65 is by one", 7, 64, step(1, 1, 65));
        ring("by 65 in two times", 4, 1, step(1, 1, 65));
        ring("half of 64 in two times", 4, 32, step(1, 1, 32));
    }

    private static void without() {
        ring("by two never", 4, 1, step(1, 1, 2));
        ring("by 64 never", 4, 1, step(1, 1, 64));
        ring("by 32 never", 4, 16, step(1, 1, 32));
        ring("by none never", 2, 1, step(9, 9, 1));
        apart("by two", store(1, 1, 2), LOAD, step(1, 1, 2));
        apart("by none", store(1, 1, 2), LOAD);
    }

    private static void aboveZero() {
        for (int n : new int[] {1, -1, 2, 63}) {
            BundleMill mill = halting(wide(), store(1, n, 2), LOAD, STEP);
            CHECKS.same("a cell " + n + " off: height", mill.place(0, 0, 2), 1);
            CHECKS.same("a cell " + n + " off: cycle", mill.place(0, 1, 3), 0);
        }
        BundleMill loop = looping(wide(), store(1, 1, 2), LOAD, STEP);
        CHECKS.same("in a LOOP's list schedule", loop.place(0, 1, 3), 0);
    }

    private static void others() {
        meet("another variable", store(2, 1, 5), LOAD);
        meet("another variable with the same n", store(2, 0, 5), LOAD);
        meet("another, both stepped", store(2, 1, 5), LOAD, STEP, step(2, 2, 1));
        meet("a loose one", store(1, 1, 2), LOAD, set(1, 0));
        pair("LOAD, STORE of another", 4, 0, LOAD, store(2, 1, 5));
        BundleMill loop = looping(wide(), LOAD, add(5, 4, 6), store(2, 9, 5));
        CHECKS.same("another, the next time", loop.shape(0, 2), 4 + 2 + 1);
        BundleMill loose = looping(wide(), LOAD, add(5, 4, 6), store(1, 9, 5), set(1, 0));
        CHECKS.same("a loose one, the next time", loose.shape(0, 2), 4 + 2 + 1);
    }
}
