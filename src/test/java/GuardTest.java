/** Terms, GUARDS FOR BRANCHES. */
public final class GuardTest extends Written {
    private static final Checks CHECKS = new Checks("GuardTest");

    public static void main(String[] args) {
        CHECKS.sentence("t and f end with a JUMP to the same block z, both are taken",
                GuardTest::both);
        CHECKS.sentence("t ends with a JUMP to f, t is taken, z is f", GuardTest::yesAlone);
        CHECKS.sentence("f ends with a JUMP to t, f is taken, z is t", GuardTest::noAlone);
        CHECKS.sentence("with t other than f", GuardTest::tIsF);
        CHECKS.sentence("A block that is taken must not be 0", GuardTest::zeroIsNotTaken);
        CHECKS.sentence("or x", GuardTest::xIsNotTaken);
        CHECKS.sentence("no other block than x comes to it", GuardTest::anotherComes);
        CHECKS.sentence("that is not gone", GuardTest::goneOnesDoNotCome);
        CHECKS.sentence("by the t and f that count for how it ends", GuardTest::whatCounts);
        CHECKS.sentence("itself is another one", GuardTest::itself);
        CHECKS.sentence("its operations have no guards", GuardTest::hasGuards);
        CHECKS.sentence("and none writes x's v", GuardTest::writesV);
        CHECKS.sentence("the operations of x and of those taken are at most 10", GuardTest::ten);
        CHECKS.sentence("x's own may write v", GuardTest::ownWriteV);
        CHECKS.sentence("z may be x", GuardTest::zIsX);
        CHECKS.sentence("or 0", GuardTest::zIsZero);
        CHECKS.sentence("blocks that nothing comes to count, too, as x", GuardTest::aloneAsX);
        CHECKS.sentence("and as those that come", GuardTest::aloneAsComer);
        CHECKS.sentence("for x from 0 on, once", GuardTest::once);
        CHECKS.sentence("each with what those ahead of it left", GuardTest::whatIsLeft);
        compiledBlocks();
        CHECKS.end();
    }

    private static void compiledBlocks() {
        CHECKS.sentence("behind its own, t's operations, guarded by v, which must not be 0, then"
                + " f's, guarded by v, which must be 0", GuardTest::order);
        CHECKS.sentence("x ends with a JUMP to z", GuardTest::endsWithJump);
        CHECKS.sentence("those taken are GONE", GuardTest::gone);
        CHECKS.sentence("The program as it was given stays for later compiling",
                GuardTest::givenStays);
    }

    /** How a block ends, then how many OUTs it has. */
    private static int[] row(int[] end, int count) {
        return new int[] {end[0], end[1], end[2], end[3], count};
    }

    private static BundleMill mill(int[]... rows) {
        BundleMill mill = new BundleMill();
        for (int x = 0; x < rows.length; x++) {
            lay(mill, rows[x], times(rows[x][4], out(x)));
        }
        return mill;
    }

    /** Compiles; the pattern has a sign for each block: - for one that is gone. */
    private static BundleMill leaves(String what, String pattern, BundleMill mill) {
        mill.compile();
        StringBuilder got = new StringBuilder();
        for (int x = 0; x < pattern.length(); x++) {
            int block = x;
            String told = Checks.told(() -> mill.shape(block, 0) >= 0);
            got.append(told.equals("true") ? '+' : told.endsWith(Checks.ELEMENT) ? '-' : '?');
        }
        CHECKS.same(what, got.toString(), pattern);
        return mill;
    }

    private static void jumpsTo(BundleMill mill, int x, int z) {
        CHECKS.same("it ends with a JUMP", mill.shape(x, 5), 1);
        CHECKS.same("z", mill.shape(x, 6), z);
    }

    private static void both() {
        jumpsTo(leaves("both", "+--+", mill(row(branch(0, 1, 2), 1), row(jump(3), 1),
                row(jump(3), 1), row(halt(), 1))), 0, 3);
        jumpsTo(leaves("f ahead of t", "+--+", mill(row(branch(0, 2, 1), 1), row(jump(3), 1),
                row(jump(3), 1), row(halt(), 1))), 0, 3);
        jumpsTo(leaves("without operations", "+--+", mill(row(branch(0, 1, 2), 0),
                row(jump(3), 0), row(jump(3), 0), row(halt(), 0))), 0, 3);
        leaves("not to the same block", "+++++", mill(row(branch(0, 1, 2), 1), row(jump(3), 1),
                row(jump(4), 1), row(halt(), 1), row(halt(), 1)));
        leaves("t halts", "++++", mill(row(branch(0, 1, 2), 1), row(new int[] {0, 0, 3, 3}, 1),
                row(jump(3), 1), row(halt(), 1)));
        leaves("f halts", "++++", mill(row(branch(0, 1, 2), 1), row(jump(3), 1),
                row(new int[] {0, 0, 3, 3}, 1), row(halt(), 1)));
        leaves("t is a LOOP", "++++", mill(row(branch(0, 1, 2), 1), row(loop(5, 3), 1),
                row(jump(3), 1), row(halt(), 1)));
        leaves("f is a LOOP", "++++", mill(row(branch(0, 1, 2), 1), row(jump(3), 1),
                row(loop(5, 3), 1), row(halt(), 1)));
        leaves("f is a BRANCH", "++++", mill(row(branch(0, 1, 2), 1), row(jump(3), 1),
                row(branch(5, 3, 3), 1), row(halt(), 1)));
        leaves("x is a LOOP", "++++", mill(row(new int[] {3, 0, 1, 2}, 1), row(jump(3), 1),
                row(jump(3), 1), row(halt(), 1)));
        leaves("x is a JUMP", "++++", mill(row(new int[] {1, 0, 1, 2}, 1), row(jump(3), 1),
                row(jump(3), 1), row(halt(), 1)));
    }

    private static void yesAlone() {
        jumpsTo(leaves("t alone", "+-+", mill(row(branch(0, 1, 2), 1), row(jump(2), 1),
                row(halt(), 1))), 0, 2);
        jumpsTo(leaves("f is a LOOP", "+-++", mill(row(branch(0, 1, 2), 1), row(jump(2), 1),
                row(loop(5, 3), 1), row(halt(), 1))), 0, 2);
        jumpsTo(leaves("f jumps on", "+-++", mill(row(branch(0, 1, 2), 1), row(jump(2), 1),
                row(jump(3), 1), row(halt(), 1))), 0, 2);
        leaves("t halts", "+++", mill(row(branch(0, 1, 2), 1), row(new int[] {0, 0, 2, 2}, 1),
                row(halt(), 1)));
        leaves("t is a LOOP", "+++", mill(row(branch(0, 1, 2), 1), row(loop(5, 2), 1),
                row(halt(), 1)));
        leaves("t is a BRANCH", "+++", mill(row(branch(0, 1, 2), 1), row(branch(5, 2, 2), 1),
                row(halt(), 1)));
        leaves("t jumps elsewhere", "++++", mill(row(branch(0, 1, 2), 1), row(jump(3), 1),
                row(halt(), 1), row(halt(), 1)));
    }

    private static void noAlone() {
        jumpsTo(leaves("f alone", "++-", mill(row(branch(0, 1, 2), 1), row(halt(), 1),
                row(jump(1), 1))), 0, 1);
        jumpsTo(leaves("t jumps on", "++-+", mill(row(branch(0, 1, 2), 1), row(jump(3), 1),
                row(jump(1), 1), row(halt(), 1))), 0, 1);
        leaves("f halts", "+++", mill(row(branch(0, 1, 2), 1), row(halt(), 1),
                row(new int[] {0, 0, 1, 1}, 1)));
        leaves("f is a LOOP", "+++", mill(row(branch(0, 1, 2), 1), row(halt(), 1),
                row(loop(5, 1), 1)));
        leaves("f is a BRANCH", "+++", mill(row(branch(0, 1, 2), 1), row(halt(), 1),
                row(branch(5, 1, 1), 1)));
    }

    private static void tIsF() {
        leaves("t is f", "+++", mill(row(branch(0, 1, 1), 1), row(jump(2), 1), row(halt(), 1)));
        BundleMill mill = leaves("t jumps to f, which it is", "++", mill(
                row(branch(0, 1, 1), 1), row(jump(1), 1)));
        CHECKS.same("it stays a BRANCH", mill.shape(0, 5), 2);
    }

    private static void zeroIsNotTaken() {
        leaves("as t of both", "++++", mill(row(jump(3), 0), row(branch(0, 0, 2), 0),
                row(jump(3), 0), row(halt(), 0)));
        leaves("as f of both", "++++", mill(row(jump(3), 0), row(branch(0, 2, 0), 0),
                row(jump(3), 0), row(halt(), 0)));
        leaves("as t alone", "+++", mill(row(jump(2), 0), row(branch(0, 0, 2), 0),
                row(halt(), 0)));
        leaves("as f alone", "+++", mill(row(jump(2), 0), row(branch(0, 2, 0), 0),
                row(halt(), 0)));
        leaves("1 may be", "+-+", mill(row(branch(0, 2, 1), 0), row(jump(2), 0), row(halt(), 0)));
    }

    private static void xIsNotTaken() {
        leaves("as t", "+++", mill(row(jump(1), 0), row(branch(0, 1, 2), 0), row(halt(), 0)));
        leaves("as f", "+++", mill(row(jump(1), 0), row(branch(0, 2, 1), 0), row(halt(), 0)));
        leaves("as t, and f jumps to it", "++-", mill(row(jump(1), 0), row(branch(0, 1, 2), 0),
                row(jump(1), 0)));
    }

    private static void anotherComes() {
        leaves("a JUMP to t of both", "+++++", mill(row(branch(0, 1, 2), 0), row(jump(3), 0),
                row(jump(3), 0), row(jump(4), 0), row(jump(1), 0)));
        leaves("a JUMP to f of both", "+++++", mill(row(branch(0, 1, 2), 0), row(jump(3), 0),
                row(jump(3), 0), row(jump(4), 0), row(jump(2), 0)));
        leaves("a LOOP to t alone", "+++", mill(row(branch(0, 1, 2), 0), row(jump(2), 0),
                row(loop(5, 1), 0)));
        leaves("a BRANCH's t to f alone", "++++", mill(row(branch(0, 1, 2), 0), row(jump(3), 0),
                row(jump(1), 0), row(branch(5, 2, 0), 0)));
        leaves("a BRANCH's f to f alone", "++++", mill(row(branch(0, 1, 2), 0), row(jump(3), 0),
                row(jump(1), 0), row(branch(5, 0, 2), 0)));
        leaves("one ahead of x", "++++", mill(row(branch(0, 1, 2), 0), row(branch(0, 2, 3), 0),
                row(jump(3), 0), row(halt(), 0)));
        leaves("t jumps to f, which jumps to t", "+++", mill(row(branch(0, 1, 2), 1),
                row(jump(2), 1), row(jump(1), 1)));
        leaves("x alone", "+-++", mill(row(branch(0, 1, 2), 0), row(jump(2), 0),
                row(branch(5, 0, 3), 0), row(halt(), 0)));
    }

    /** Where a gone block went, the one that took it goes: so only the blocks behind can tell. */
    private static void goneOnesDoNotCome() {
        BundleMill mill = leaves("behind two that are gone", "+--+-+", mill(
                row(branch(0, 1, 2), 1), row(jump(3), 1), row(jump(3), 1), row(branch(1, 4, 5), 1),
                row(jump(5), 1), row(halt(), 1)));
        jumpsTo(mill, 0, 3);
        jumpsTo(mill, 3, 5);
        CHECKS.same("its guard", mill.place(3, 1, 1), 2);
    }

    private static void whatCounts() {
        leaves("a JUMP's f", "+-++", mill(row(branch(0, 1, 2), 0), row(jump(2), 0),
                row(halt(), 0), row(new int[] {1, 0, 0, 1}, 0)));
        leaves("a LOOP's f", "+-++", mill(row(branch(0, 1, 2), 0), row(jump(2), 0),
                row(halt(), 0), row(new int[] {3, 0, 2, 1}, 0)));
        leaves("a HALT's t and f", "+-++", mill(row(branch(0, 1, 2), 0), row(jump(2), 0),
                row(halt(), 0), row(new int[] {0, 0, 1, 1}, 0)));
        leaves("its own f", "+-+", mill(row(branch(0, 1, 2), 0), row(new int[] {1, 0, 2, 1}, 0),
                row(halt(), 0)));
        leaves("a JUMP's t", "++++", mill(row(branch(0, 1, 2), 0), row(jump(2), 0),
                row(halt(), 0), row(jump(1), 0)));
        leaves("a LOOP's t", "++++", mill(row(branch(0, 1, 2), 0), row(jump(2), 0),
                row(halt(), 0), row(loop(0, 1), 0)));
        leaves("a BRANCH's t", "++++", mill(row(branch(0, 1, 2), 0), row(jump(2), 0),
                row(halt(), 0), row(branch(0, 1, 2), 0)));
        leaves("a BRANCH's f", "++++", mill(row(branch(0, 1, 2), 0), row(jump(2), 0),
                row(halt(), 0), row(branch(0, 2, 1), 0)));
    }

    private static void itself() {
        leaves("t and f jump to f: t alone", "+-+", mill(row(branch(0, 1, 2), 1),
                row(jump(2), 1), row(jump(2), 1)));
        leaves("t and f jump to t: f alone", "++-", mill(row(branch(0, 1, 2), 1),
                row(jump(1), 1), row(jump(1), 1)));
        leaves("t jumps to itself", "+++", mill(row(branch(0, 1, 2), 1), row(jump(1), 1),
                row(halt(), 1)));
        leaves("f jumps to itself", "+++", mill(row(branch(0, 1, 2), 1), row(halt(), 1),
                row(jump(2), 1)));
    }

    /** Block 0 branches by variable 5 to t and f, each with one operation, and both jump to 3. */
    private static BundleMill fork(int[] yes, int[] no, int[]... own) {
        BundleMill mill = lay(new BundleMill(), branch(5, 1, 2), own);
        lay(mill, jump(3), yes);
        lay(mill, jump(3), no);
        return lay(mill, halt());
    }

    private static void hasGuards() {
        for (int guard : new int[] {1, -1, 6, -6, 12, -12}) {
            leaves("t's " + guard, "++++", fork(guarded(guard, set(1, 1)), set(1, 1)));
            leaves("f's " + guard, "++++", fork(set(1, 1), guarded(guard, out(1))));
            leaves("x's own " + guard, "+--+", fork(set(1, 1), set(1, 1),
                    guarded(guard, set(1, 1))));
        }
        BundleMill last = mill(row(branch(0, 1, 2), 0), row(jump(2), 9));
        operate(last, guarded(1, out(0)));
        leaves("the last of ten", "+++", lay(last, halt()));
    }

    private static void writesV() {
        for (int code = 0; code < 10; code++) {
            String due = code < 8 ? "++++" : "+--+";
            leaves("t's code " + code, due, fork(op(code, 5, 1, 1, 0, 0), set(4, 1)));
            leaves("f's code " + code, due, fork(set(6, 1), op(code, 5, 1, 1, 0, 0)));
        }
        leaves("another variable", "+--+", fork(add(4, 5, 5), add(6, 5, 5)));
        BundleMill last = mill(row(branch(0, 1, 2), 0), row(jump(2), 9));
        operate(last, load(0, 1, 0));
        leaves("the last of ten", "+++", lay(last, halt()));
    }

    private static void ten() {
        BundleMill mill = leaves("ten with both", "+--+", mill(row(branch(0, 1, 2), 3),
                row(jump(3), 3), row(jump(3), 4), row(halt(), 10)));
        CHECKS.same("all ten", mill.shape(0, 0), 10);
        leaves("ten with t", "+-+", mill(row(branch(0, 1, 2), 1), row(jump(2), 9),
                row(halt(), 10)));
        leaves("ten with f", "++-", mill(row(branch(0, 1, 2), 9), row(halt(), 10),
                row(jump(1), 1)));
        leaves("eleven with both", "++++", mill(row(branch(0, 1, 2), 3), row(jump(3), 4),
                row(jump(3), 4), row(halt(), 0)));
        leaves("eleven with t", "+++", mill(row(branch(0, 1, 2), 1), row(jump(2), 10),
                row(halt(), 0)));
        leaves("eleven with f", "+++", mill(row(branch(0, 1, 2), 10), row(halt(), 0),
                row(jump(1), 1)));
        leaves("ten of t and none else", "+-+", mill(row(branch(0, 1, 2), 0), row(jump(2), 10),
                row(halt(), 0)));
        leaves("twenty of both", "++++", mill(row(branch(0, 1, 2), 0), row(jump(3), 10),
                row(jump(3), 10), row(halt(), 0)));
    }

    private static void ownWriteV() {
        for (int code = 0; code < 8; code++) {
            leaves("code " + code, "+--+", fork(out(5), out(5), op(code, 5, 1, 1, 0, 0)));
        }
        BundleMill mill = leaves("it tells", "+--+", fork(set(1, 10), set(1, 20), set(5, 1)));
        mill.run();
        CHECKS.same("t's was done", mill.variable(1), 10);
    }

    private static void zIsX() {
        jumpsTo(leaves("of both", "++--", mill(row(jump(1), 0), row(branch(0, 2, 3), 0),
                row(jump(1), 1), row(jump(1), 1))), 1, 1);
        jumpsTo(leaves("of block 0", "+--", mill(row(branch(0, 1, 2), 0), row(jump(0), 1),
                row(jump(0), 1))), 0, 0);
        jumpsTo(leaves("t jumps to f, which is x", "++-", mill(row(jump(1), 0),
                row(branch(0, 2, 1), 0), row(jump(1), 1))), 1, 1);
        jumpsTo(leaves("f jumps to t, which is x", "++-", mill(row(jump(1), 0),
                row(branch(0, 1, 2), 0), row(jump(1), 1))), 1, 1);
    }

    private static void zIsZero() {
        jumpsTo(leaves("of both", "++--", mill(row(jump(1), 0), row(branch(0, 2, 3), 0),
                row(jump(0), 1), row(jump(0), 1))), 1, 0);
        jumpsTo(leaves("as f", "++-", mill(row(jump(1), 0), row(branch(0, 2, 0), 0),
                row(jump(0), 1))), 1, 0);
        jumpsTo(leaves("as t", "++-", mill(row(jump(1), 0), row(branch(0, 0, 2), 0),
                row(jump(0), 1))), 1, 0);
    }

    private static void aloneAsX() {
        jumpsTo(leaves("both", "++--+", mill(row(halt(), 0), row(branch(0, 2, 3), 0),
                row(jump(4), 1), row(jump(4), 1), row(halt(), 0))), 1, 4);
        jumpsTo(leaves("the last one", "+-++", mill(row(halt(), 0), row(jump(2), 1),
                row(halt(), 0), row(branch(0, 1, 2), 0))), 3, 2);
    }

    private static void aloneAsComer() {
        for (int[] end : new int[][] {jump(1), loop(0, 1), branch(0, 1, 1), branch(0, 3, 1)}) {
            leaves("end " + end[0], "++++", mill(row(branch(0, 1, 2), 0), row(jump(2), 1),
                    row(halt(), 0), row(end, 0)));
        }
    }

    /** The outer branch could be guarded only when the inner one has been. */
    private static void once() {
        BundleMill mill = leaves("the inner behind the outer", "++-+", mill(
                row(branch(0, 1, 3), 0), row(branch(0, 2, 3), 0), row(jump(3), 0),
                row(halt(), 0)));
        CHECKS.same("the outer stays", mill.shape(0, 5), 2);
        CHECKS.same("its t", mill.shape(0, 6), 1);
        jumpsTo(mill, 1, 3);
        BundleMill two = leaves("two beside one another", "+-+-+", mill(row(branch(0, 1, 2), 1),
                row(jump(2), 1), row(branch(0, 3, 4), 1), row(jump(4), 1), row(halt(), 1)));
        jumpsTo(two, 0, 2);
        jumpsTo(two, 2, 4);
        BundleMill first = leaves("both would take block 3: the first one comes to it, too",
                "+++++", mill(row(branch(0, 3, 4), 0), row(branch(0, 3, 4), 0), row(halt(), 0),
                row(jump(4), 0), row(halt(), 0)));
        CHECKS.same("0 stays", first.shape(0, 5), 2);
    }

    private static void whatIsLeft() {
        BundleMill inner = leaves("the inner ahead of the outer", "+-+-++", mill(row(jump(2), 0),
                row(branch(0, 3, 4), 1), row(branch(0, 1, 4), 1), row(jump(4), 0), row(halt(), 0),
                row(halt(), 0)));
        jumpsTo(inner, 2, 4);
        CHECKS.same("its operations", inner.shape(2, 0), 2);
        CHECKS.same("their guard", inner.place(2, 1, 1), 1);
        BundleMill guards = leaves("what got guards is not taken", "+++-+", mill(row(jump(2), 0),
                row(branch(0, 3, 4), 1), row(branch(0, 1, 4), 1), row(jump(4), 1),
                row(halt(), 0)));
        CHECKS.same("the outer stays", guards.shape(2, 5), 2);
        BundleMill more = leaves("what got more operations is too long", "+-++", mill(
                row(branch(0, 1, 2), 2), row(jump(2), 4), row(branch(0, 0, 3), 5),
                row(halt(), 0)));
        CHECKS.same("six", more.shape(0, 0), 6);
        BundleMill comes = leaves("1 comes to 3 behind 2", "++-+++", mill(row(jump(1), 0),
                row(branch(0, 2, 3), 0), row(jump(3), 1), row(jump(5), 1), row(branch(0, 3, 5), 0),
                row(halt(), 0)));
        CHECKS.same("4 stays a BRANCH", comes.shape(4, 5), 2);
    }

    private static void order() {
        for (int[] end : new int[][] {branch(11, 1, 2), branch(11, 2, 1)}) {
            BundleMill mill = lay(new BundleMill(), end, set(1, 1), set(2, 1));
            lay(mill, jump(3), step(1, 1, 1), add(1, 1, 1));
            lay(mill, jump(3), op(3, 1, 1, 1, 0, 0));
            lay(mill, halt());
            mill.compile();
            boolean first = end[2] == 1;
            int[] codes = first ? new int[] {0, 0, 1, 2, 3} : new int[] {0, 0, 3, 1, 2};
            int[] guards = first ? new int[] {0, 0, 12, 12, -12} : new int[] {0, 0, 12, -12, -12};
            for (int k = 0; k < 5; k++) {
                CHECKS.same("code of " + k, mill.place(0, k, 0), codes[k]);
                CHECKS.same("guard of " + k, mill.place(0, k, 1), guards[k]);
            }
            CHECKS.refuses(Checks.ELEMENT, "no more", () -> mill.place(0, 5, 0));
        }
        for (int v : new int[] {0, 1, -1, MIN}) {
            BundleMill mill = fork(set(1, 10), set(1, 20), set(5, v), guarded(6, set(2, 3)));
            mill.compile();
            CHECKS.same("x's own guard", mill.place(0, 1, 1), 6);
            mill.run();
            CHECKS.same("done by " + v, mill.variable(1), v != 0 ? 10 : 20);
        }
        for (int v = 0; v < 12; v++) {
            BundleMill yes = compiled(mill(row(branch(v, 1, 2), 1), row(jump(2), 1),
                    row(halt(), 1)));
            CHECKS.same("t's alone", yes.place(0, 1, 1), 1 + v);
            BundleMill no = compiled(mill(row(branch(v, 1, 2), 1), row(halt(), 1),
                    row(jump(1), 1)));
            CHECKS.same("f's alone", no.place(0, 1, 1), -1 - v);
        }
    }

    private static void endsWithJump() {
        BundleMill mill = mill(row(branch(0, 1, 2), 1), row(jump(3), 2), row(jump(3), 3),
                row(halt(), 4));
        jumpsTo(compiled(mill), 0, 3);
        mill.run();
        CHECKS.same("turns", mill.result(2), 2);
        CHECKS.same("put out: x's, f's and z's", mill.result(0), 1 + 3 + 4);
    }

    private static void gone() {
        BundleMill mill = mill(row(branch(0, 1, 2), 1), row(jump(3), 2), row(jump(3), 3),
                row(halt(), 4));
        CHECKS.same("bundles of the others", mill.compile(), 6 + 4);
        for (int x = 1; x < 3; x++) {
            int block = x;
            CHECKS.refuses(Checks.ELEMENT, "shape", () -> mill.shape(block, 0));
            CHECKS.refuses(Checks.ELEMENT, "place", () -> mill.place(block, 0, 0));
            CHECKS.refuses(Checks.ELEMENT, "bundle", () -> mill.bundle(block, 0, false));
            CHECKS.refuses(Checks.ELEMENT, "filled", () -> mill.filled(block));
        }
        CHECKS.same("z stays", mill.shape(3, 0), 4);
    }

    private static void givenStays() {
        BundleMill mill = mill(row(branch(0, 1, 2), 1), row(jump(2), 1), row(halt(), 1));
        CHECKS.same("bundles", mill.compile(), 3);
        CHECKS.same("once more", mill.compile(), 3);
        CHECKS.same("operations", mill.shape(0, 0), 2);
        mill.machine(2, 2, 1, 1, 1, 1);
        CHECKS.same("for another machine", mill.compile(), 3);
        lay(mill, jump(1));
        leaves("one that comes to t", "++++", mill);
        CHECKS.same("x as it was given", mill.shape(0, 0), 1);
        CHECKS.same("its end", mill.shape(0, 5), 2);
        CHECKS.same("t as it was given", mill.place(1, 0, 1), 0);
        BundleMill latest = mill(row(branch(0, 2, 1), 1), row(halt(), 1), row(jump(1), 9));
        leaves("the latest block", "++-", latest);
        CHECKS.same("it gets an operation more", operate(latest, out(0)), 9);
        leaves("eleven", "+++", latest);
        CHECKS.same("its operations", latest.shape(2, 0), 10);
    }
}
