/** Terms, EDGES of variables and of order, as heights, cycles and MII show them. */
public final class EdgeTest extends Written {
    private static final Checks CHECKS = new Checks("EdgeTest");

    /** The latencies of the codes, for the machine that most cases have. */
    private static final int[] OWN = {2, 2, 2, 2, 3, 2, 8, 4, 1, 1};

    private static final boolean[] READS_A = {false, true, true, true, true, true, true, true,
        true, true};
    private static final boolean[] READS_B = {false, false, true, true, true, true, true, false,
        true, false};

    public static void main(String[] args) {
        CHECKS.sentence("for i before j with the distance 0", EdgeTest::before);
        CHECKS.sentence("if the block ends with LOOP, for i = j with the distance 1",
                EdgeTest::itself);
        CHECKS.sentence("and i behind j with the distance 1", EdgeTest::behind);
        CHECKS.sentence("i writes a variable that j reads: delay, i's latency",
                EdgeTest::writesWhatIsRead);
        CHECKS.sentence("a guard is read, too", EdgeTest::readsGuard);
        CHECKS.sentence("i reads one that j writes: 1 - j's latency", EdgeTest::readsWhatIsWritten);
        CHECKS.sentence("Both write the same: i's latency - j's + 1", EdgeTest::bothWrite);
        CHECKS.sentence("Both are OUT", EdgeTest::bothOut);
        CHECKS.sentence("or one is DIV and the other DIV, OUT or STORE: 1", EdgeTest::divides);
        CHECKS.sentence("One edge each for these that hold", EdgeTest::severalHold);
        CHECKS.end();
    }

    private static BundleMill wide() {
        return machine(4, 2, 2, 3, 8, 4);
    }

    /** Two operations: the height of the first, and the cycle of the second. */
    private static void pair(String what, int[] one, int[] two, int height, int cycle) {
        BundleMill mill = halting(wide(), one, two);
        CHECKS.same(what + ": height", mill.place(0, 0, 2), height);
        CHECKS.same(what + ": first cycle", mill.place(0, 0, 3), 0);
        CHECKS.same(what + ": second cycle", mill.place(0, 1, 3), cycle);
        BundleMill loop = looping(wide(), one, two);
        CHECKS.same(what + ": height in a LOOP", loop.place(0, 0, 2), height);
        CHECKS.same(what + ": second cycle in a LOOP", loop.place(0, 1, 3), cycle);
    }

    /** The MII of a LOOP with units for all. */
    private static void least(String what, int due, int[]... ops) {
        CHECKS.same(what + ": MII", looping(wide(), ops).shape(0, 2), due);
    }

    private static void before() {
        pair("nothing shared", set(1, 0), set(2, 0), 2, 0);
        pair("read behind", set(1, 0), step(2, 1, 0), 4, 2);
        pair("read ahead", step(2, 1, 0), set(1, 0), 2, 0);
        BundleMill far = halting(wide(), set(1, 0), set(2, 0), set(3, 0), step(4, 1, 0));
        CHECKS.same("not beside one another", far.place(0, 3, 3), 2);
        CHECKS.same("height", far.place(0, 0, 2), 4);
    }

    private static void itself() {
        least("a STEP", 2, step(1, 1, 1));
        least("a MUL", 3, mul(1, 1, 2));
        least("its b", 3, mul(1, 2, 1));
        least("its guard", 4, guarded(2, load(1, 2, 0)));
        least("a LOAD of its own address", 4, load(1, 1, 0));
        least("another variable", 1, step(1, 2, 1));
        BundleMill halting = halting(wide(), step(1, 1, 1));
        CHECKS.same("not in another block", halting.place(0, 0, 2), 2);
    }

    private static void behind() {
        least("a ring of two", 3 + 2, mul(1, 2, 2), step(2, 1, 0));
        least("a ring of three", 3 + 2 + 4, mul(1, 3, 3), step(2, 1, 0), load(3, 2, 0));
        least("no ring", 1, step(2, 1, 0), set(1, 0));
        BundleMill mill = looping(wide(), step(2, 1, 0), mul(1, 5, 5));
        CHECKS.same("the height of who reads the next time", mill.place(0, 1, 2), 3);
        CHECKS.same("the list schedule does not wait", mill.place(0, 0, 3), 0);
        CHECKS.same("by modulo it is there in the next time", mill.place(0, 0, 4), 2);
    }

    private static void writesWhatIsRead() {
        for (int code = 0; code < 8; code++) {
            pair("code " + code + " writes d", op(code, 1, 2, 3, 0, 0), step(4, 1, 0),
                    OWN[code] + 2, OWN[code]);
            pair("code " + code + " writes no a", op(code, 1, 2, 3, 0, 0), step(4, 2, 0),
                    OWN[code], 0);
        }
        pair("STORE writes no d", op(8, 1, 2, 3, 0, 0), step(4, 1, 0), 1, 0);
        pair("OUT writes no d", op(9, 1, 2, 3, 0, 0), step(4, 1, 0), 1, 0);
        for (int code = 0; code < 10; code++) {
            pair("code " + code + " and a", mul(1, 2, 2), op(code, 4, 1, 3, 0, 0),
                    READS_A[code] ? 3 + OWN[code] : 3, READS_A[code] ? 3 : 0);
            pair("code " + code + " and b", mul(1, 2, 2), op(code, 4, 3, 1, 0, 0),
                    READS_B[code] ? 3 + OWN[code] : 3, READS_B[code] ? 3 : 0);
        }
    }

    private static void readsGuard() {
        for (int code = 0; code < 10; code++) {
            int own = OWN[code];
            int[] one = op(code, 4, 2, 2, 0, 0);
            pair("code " + code + ", not 0", mul(1, 3, 3), guarded(2, one), 3 + own, 3);
            pair("code " + code + ", 0", mul(1, 3, 3), guarded(-2, one), 3 + own, 3);
            pair("code " + code + ", another", mul(1, 3, 3), guarded(3, one), 3, 0);
        }
        pair("variable 0", mul(0, 3, 3), guarded(1, set(4, 0)), 5, 3);
        pair("variable 0, no guard", mul(0, 3, 3), set(4, 0), 3, 0);
        BundleMill last = halting(wide(), mul(11, 3, 3), guarded(-12, set(4, 0)));
        CHECKS.same("variable 11", last.place(0, 1, 3), 3);
    }

    /** Who reads, who writes, and two that need what is written: the heights show the delay. */
    private static void thenWritten(String what, int[] reader, int[] writer, int latency) {
        BundleMill mill = halting(wide(), reader, writer, load(9, 1, 0), div(9, 9, 9));
        int height = latency + 4 + 8;
        CHECKS.same(what + ": height of who writes", mill.place(0, 1, 2), height);
        CHECKS.same(what + ": height of who reads", mill.place(0, 0, 2), 1 - latency + height);
        CHECKS.same(what + ": in the same cycle", mill.place(0, 1, 3), mill.place(0, 0, 3));
    }

    private static void readsWhatIsWritten() {
        for (int code = 0; code < 8; code++) {
            int[] writer = op(code, 1, 2, 3, 0, 0);
            thenWritten("a and code " + code, load(8, 1, 0), writer, OWN[code]);
            thenWritten("b and code " + code, mul(8, 2, 1), writer, OWN[code]);
            thenWritten("guard and code " + code, guarded(2, set(8, 0)), writer, OWN[code]);
            thenWritten("the other guard and code " + code, guarded(-2, set(8, 0)), writer,
                    OWN[code]);
        }
        for (int code = 0; code < 10; code++) {
            int own = OWN[code];
            readerHeight("a of " + code, op(code, 8, 1, 2, 0, 0), READS_A[code] ? 10 : own);
            readerHeight("b of " + code, op(code, 8, 2, 1, 0, 0), READS_B[code] ? 10 : own);
            readerHeight("d of " + code, op(code, 8, 2, 2, 0, 0), own);
            readerHeight("guard of " + code, op(code, 8, 2, 2, 0, 2), 10);
            readerHeight("other guard of " + code, op(code, 8, 2, 2, 0, -2), 10);
        }
    }

    /** Who reads variable 1, or doesn't, ahead of a MUL of height 12 that writes it. */
    private static void readerHeight(String what, int[] reader, int height) {
        BundleMill mill = halting(wide(), reader, mul(1, 2, 2), mul(9, 1, 1), mul(9, 9, 9),
                mul(9, 9, 9));
        CHECKS.same(what + ": height", mill.place(0, 0, 2), height);
    }

    private static void bothWrite() {
        pair("LOAD, SET", load(1, 2, 0), set(1, 0), 4 - 2 + 1 + 2, 3);
        pair("SET, LOAD", set(1, 0), load(1, 2, 0), 2 - 4 + 1 + 4, 0);
        pair("SET, SET", set(1, 0), set(1, 0), 1 + 2, 1);
        pair("SET, MUL", set(1, 0), mul(1, 2, 2), 2 - 3 + 1 + 3, 0);
        pair("MUL, SET", mul(1, 2, 2), set(1, 0), 3 - 2 + 1 + 2, 2);
        pair("DIV, LOAD", div(1, 2, 2), load(1, 2, 0), 8 - 4 + 1 + 4, 5);
        pair("LOAD, DIV", load(1, 2, 0), div(1, 2, 2), 4 - 8 + 1 + 8, 0);
        pair("guards that exclude one another", guarded(5, mul(1, 2, 2)), guarded(-5, set(1, 0)),
                3 - 2 + 1 + 2, 2);
        pair("STOREs write none", op(8, 1, 2, 3, 0, 0), op(8, 1, 2, 3, 1, 0), 1, 0);
        pair("a STORE's d", mul(1, 2, 2), op(8, 1, 2, 3, 0, 0), 3, 0);
        least("two in a LOOP", 2, mul(1, 2, 2), set(1, 0));
        least("itself", 1, mul(1, 2, 2));
    }

    private static void bothOut() {
        pair("OUT, OUT", out(1), out(1), 2, 1);
        pair("of other variables", out(1), out(2), 2, 1);
        pair("with guards that exclude one another", guarded(3, out(1)), guarded(-3, out(1)), 2,
                1);
        least("two in a LOOP", 2, out(1), out(2));
        pair("OUT, STORE", out(1), store(1, 0, 1), 1, 0);
        pair("STORE, OUT", store(1, 0, 1), out(1), 1, 0);
        pair("OUT, LOAD", out(1), load(2, 1, 0), 1, 0);
        pair("LOAD, OUT", load(2, 1, 0), out(1), 4, 0);
        pair("OUT, SET", out(1), set(2, 0), 1, 0);
    }

    private static void divides() {
        int[] div = div(5, 1, 1);
        pair("DIV, DIV", div, div(6, 1, 1), 1 + 8, 1);
        pair("DIV, OUT", div, out(1), 8, 1);
        pair("OUT, DIV", out(1), div, 1 + 8, 1);
        pair("DIV, STORE", div, store(1, 0, 1), 8, 1);
        pair("STORE, DIV", store(1, 0, 1), div, 1 + 8, 1);
        pair("DIV, LOAD", div, load(2, 1, 0), 8, 0);
        pair("LOAD, DIV", load(2, 1, 0), div, 4, 0);
        pair("DIV, MUL", div, mul(2, 1, 1), 8, 0);
        pair("MUL, DIV", mul(2, 1, 1), div, 3, 0);
        pair("SET, DIV", set(2, 0), div, 2, 0);
        least("a DIV by itself", 1, div);
        least("DIV and OUT in a LOOP", 2, div, out(1));
        least("OUT and DIV in a LOOP", 2, out(1), div);
        least("DIV and STORE in a LOOP", 2, div, store(1, 0, 1));
        least("STORE and DIV in a LOOP", 2, store(1, 0, 1), div);
        least("two DIVs in a LOOP", 2, div, div(6, 1, 1));
        least("DIV and LOAD in a LOOP", 1, div, load(2, 1, 0));
    }

    private static void severalHold() {
        pair("read, and written again", load(1, 2, 0), step(1, 1, 0), 4 + 2, 4);
        pair("a guard that is written", mul(1, 2, 2), guarded(2, set(1, 0)), 3 + 2, 3);
        pair("read and written", step(2, 1, 0), mul(1, 2, 2), 2 + 3, 2);
        pair("DIV writes what OUT reads", div(1, 2, 2), out(1), 8 + 1, 8);
        pair("STORE, LOAD that writes its b", store(1, 0, 2), load(2, 1, 0), 1 + 4, 1);
        pair("LOAD, STORE that reads it", load(2, 1, 0), store(1, 0, 2), 4 + 1, 4);
        pair("DIV, DIV that writes the same", div(1, 2, 2), div(1, 2, 2), 1 + 8, 1);
        pair("DIV, DIV that reads it", div(1, 2, 2), div(1, 1, 2), 8 + 8, 8);
    }
}
