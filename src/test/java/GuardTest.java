/** Guards for branches, as promises 8, 13 and 14 tell of them. */
public final class GuardTest {
    private static final Checks CHECKS = new Checks("GuardTest");

    /** What a program's blocks end with: end, v, t, f, then how many operations. */
    private static BundleMill mill(int[]... rows) {
        BundleMill mill = new BundleMill();
        for (int x = 0; x < rows.length; x++) {
            mill.block(rows[x][0], rows[x][1], rows[x][2], rows[x][3]);
            for (int k = 0; k < rows[x][4]; k++) {
                mill.operation(9, 0, x, 0, 0, 0);
            }
        }
        return mill;
    }

    private static int[] row(int end, int v, int t, int f, int count) {
        return new int[] {end, v, t, f, count};
    }

    public static void main(String[] args) {
        both();
        oneSide();
        notTaken();
        limits();
        whoComes();
        whatTheyDo();
        oneBehindTheOther();
        compiledAgain();
        CHECKS.end();
    }

    /** The pattern has a sign for each block: + for one that is there, - for one that is gone. */
    private static void taken(String what, BundleMill mill, int x, String pattern, int z) {
        mill.compile();
        for (int y = 0; y < pattern.length(); y++) {
            int block = y;
            CHECKS.same(what + ": block " + y, Checks.told(() -> mill.shape(block, 0) >= 0),
                    pattern.charAt(y) == '+' ? "true" : "throws." + Checks.ELEMENT);
        }
        CHECKS.same(what + ": ends with a JUMP", mill.shape(x, 5), 1);
        CHECKS.same(what + ": z", mill.shape(x, 6), z);
    }

    private static void kept(String what, BundleMill mill, int blocks) {
        mill.compile();
        for (int y = 0; y < blocks; y++) {
            int block = y;
            CHECKS.same(what + ": block " + y, Checks.told(() -> mill.shape(block, 0) >= 0),
                    "true");
        }
    }

    private static void both() {
        BundleMill mill = mill(row(2, 3, 2, 1, 1), row(1, 0, 3, 0, 2), row(1, 0, 3, 0, 1),
                row(0, 0, 0, 0, 1), row(0, 0, 0, 0, 0), row(0, 0, 0, 0, 0));
        taken("both", mill, 0, "+--+++", 3);
        CHECKS.same("operations", mill.shape(0, 0), 4);
        int[] guards = {0, 4, -4, -4};
        for (int k = 0; k < 4; k++) {
            CHECKS.same("guard of " + k, mill.place(0, k, 1), guards[k]);
        }
        CHECKS.refuses(Checks.ELEMENT, "place in a block that is gone", () -> mill.place(1, 0, 9));
        CHECKS.refuses(Checks.ELEMENT, "its bundle", () -> mill.bundle(1, -1, false));
        CHECKS.refuses(Checks.ELEMENT, "its filled", () -> mill.filled(2));
        CHECKS.same("turns", mill.run() > 0 ? mill.result(2) : 0, 2);
        CHECKS.same("put out: x's, f's two, z's", mill.result(0), 4);
    }

    private static void oneSide() {
        BundleMill yes = mill(row(2, 11, 1, 2, 1), row(1, 0, 2, 0, 1), row(0, 0, 0, 0, 1),
                row(0, 0, 0, 0, 0), row(0, 0, 0, 0, 0), row(0, 0, 0, 0, 0));
        taken("t alone", yes, 0, "+-++++", 2);
        CHECKS.same("its guard", yes.place(0, 1, 1), 12);
        BundleMill no = mill(row(2, 11, 2, 1, 1), row(1, 0, 2, 0, 1), row(0, 0, 0, 0, 1),
                row(0, 0, 0, 0, 0), row(0, 0, 0, 0, 0), row(0, 0, 0, 0, 0));
        taken("f alone", no, 0, "+-++++", 2);
        CHECKS.same("its guard", no.place(0, 1, 1), -12);
        BundleMill back = mill(row(1, 0, 1, 0, 0), row(2, 0, 2, 1, 0), row(1, 0, 1, 0, 1),
                row(0, 0, 0, 0, 0), row(0, 0, 0, 0, 0), row(0, 0, 0, 0, 0));
        taken("z is x", back, 1, "++-+++", 1);
        BundleMill start = mill(row(1, 0, 1, 0, 0), row(2, 0, 2, 3, 0), row(1, 0, 0, 0, 1),
                row(1, 0, 0, 0, 1), row(0, 0, 0, 0, 0), row(0, 0, 0, 0, 0));
        taken("z is 0", start, 1, "++--++", 0);
    }

    private static void notTaken() {
        kept("t is f", mill(row(2, 0, 1, 1, 0), row(1, 0, 2, 0, 1), row(0, 0, 0, 0, 0)), 3);
        kept("t and f jump apart", mill(row(2, 0, 1, 2, 0), row(1, 0, 3, 0, 1),
                row(1, 0, 4, 0, 1), row(0, 0, 0, 0, 0), row(0, 0, 0, 0, 0)), 5);
        kept("t halts", mill(row(2, 0, 1, 2, 0), row(0, 0, 2, 2, 1), row(0, 0, 1, 1, 0)), 3);
        kept("t is a loop", mill(row(2, 0, 1, 2, 0), row(3, 0, 2, 2, 1), row(0, 0, 1, 1, 0)), 3);
        kept("t branches", mill(row(2, 0, 1, 2, 0), row(2, 0, 2, 2, 1), row(0, 0, 1, 1, 0)), 3);
        kept("f jumps to itself", mill(row(2, 0, 1, 2, 0), row(0, 0, 2, 0, 1),
                row(1, 0, 2, 0, 0)), 3);
        kept("0 is never taken", mill(row(1, 0, 2, 0, 0), row(0, 0, 0, 0, 0), row(2, 0, 0, 1, 0)),
                3);
        kept("x itself", mill(row(1, 0, 1, 0, 0), row(2, 0, 1, 2, 0), row(0, 0, 0, 0, 0)), 3);
    }

    private static void limits() {
        BundleMill ten = mill(row(2, 0, 1, 2, 3), row(1, 0, 3, 0, 3), row(1, 0, 3, 0, 4),
                row(0, 0, 0, 0, 0), row(0, 0, 0, 0, 0), row(0, 0, 0, 0, 0));
        taken("ten operations", ten, 0, "+--+++", 3);
        CHECKS.same("all ten", ten.shape(0, 0), 10);
        kept("eleven operations", mill(row(2, 0, 1, 2, 3), row(1, 0, 3, 0, 4), row(1, 0, 3, 0, 4),
                row(0, 0, 0, 0, 0)), 4);
        kept("eleven with t", mill(row(2, 0, 1, 2, 3), row(1, 0, 2, 0, 8), row(0, 0, 0, 0, 1)), 3);
        kept("eleven with f", mill(row(2, 0, 2, 1, 3), row(1, 0, 2, 0, 8), row(0, 0, 0, 0, 1)), 3);
        taken("z's don't count", mill(row(2, 0, 2, 1, 3), row(1, 0, 2, 0, 7), row(0, 0, 0, 0, 10)),
                0, "+-+", 2);
    }

    private static void whoComes() {
        kept("another comes to t", mill(row(2, 0, 1, 2, 0), row(1, 0, 3, 0, 1), row(1, 0, 3, 0, 1),
                row(1, 0, 1, 0, 0)), 4);
        kept("one that nothing comes to", mill(row(2, 0, 1, 2, 0), row(1, 0, 2, 0, 1),
                row(0, 0, 0, 0, 1), row(3, 0, 1, 0, 0)), 4);
        kept("by an f that counts", mill(row(2, 0, 1, 2, 0), row(1, 0, 2, 0, 1),
                row(0, 0, 0, 0, 1), row(2, 0, 2, 1, 0)), 4);
        taken("by a t and f that don't count", mill(row(2, 0, 1, 2, 0), row(1, 0, 2, 1, 1),
                row(0, 0, 1, 1, 1), row(3, 0, 2, 1, 0), row(1, 0, 0, 1, 0), row(0, 0, 1, 1, 0)),
                0, "+-++++", 2);
        taken("a branch that nothing comes to", mill(row(0, 0, 0, 0, 0), row(2, 0, 2, 3, 0),
                row(1, 0, 3, 0, 1), row(0, 0, 0, 0, 0), row(0, 0, 0, 0, 0), row(0, 0, 0, 0, 0)),
                1, "++-+++", 3);
        kept("t jumps to f, which jumps to t", mill(row(2, 0, 1, 2, 0), row(1, 0, 2, 0, 1),
                row(1, 0, 1, 0, 1)), 3);
        taken("t jumps to f, which jumps to itself", mill(row(2, 0, 1, 2, 0), row(1, 0, 2, 0, 1),
                row(1, 0, 2, 0, 1), row(0, 0, 0, 0, 0), row(0, 0, 0, 0, 0), row(0, 0, 0, 0, 0)),
                0, "+-++++", 2);
    }

    private static BundleMill withOperation(int code, int d, int guard) {
        BundleMill mill = new BundleMill();
        mill.block(2, 5, 1, 2);
        mill.operation(0, 5, 0, 0, 1, 3);
        mill.block(1, 0, 2, 0);
        mill.operation(code, d, 0, 0, 0, guard);
        mill.block(0, 0, 0, 0);
        return mill;
    }

    private static void whatTheyDo() {
        kept("an operation has a guard", withOperation(0, 1, 7), 3);
        kept("a guard that must be 0", withOperation(0, 1, -7), 3);
        kept("an operation writes v", withOperation(7, 5, 0), 3);
        taken("a STORE writes no variable", withOperation(8, 5, 0), 0, "+-+", 2);
        BundleMill mill = withOperation(0, 4, 0);
        taken("x may write v and have guards", mill, 0, "+-+", 2);
        CHECKS.same("x's own guard", mill.place(0, 0, 1), 3);
        CHECKS.same("t's guard", mill.place(0, 1, 1), 6);
    }

    private static void oneBehindTheOther() {
        BundleMill outer = mill(row(2, 0, 1, 3, 0), row(2, 0, 2, 3, 0), row(1, 0, 3, 0, 0),
                row(0, 0, 0, 0, 0));
        taken("the inner branch behind the outer", outer, 1, "++-+", 3);
        CHECKS.same("the outer stays", outer.shape(0, 5), 2);
        BundleMill inner = mill(row(1, 0, 2, 0, 0), row(2, 0, 3, 4, 1), row(2, 0, 1, 4, 1),
                row(1, 0, 4, 0, 0), row(0, 0, 0, 0, 0), row(0, 0, 0, 0, 0));
        taken("the inner branch first", inner, 2, "+-+-++", 4);
        CHECKS.same("its guard", inner.place(2, 1, 1), 1);
        BundleMill guarded = mill(row(1, 0, 2, 0, 0), row(2, 0, 3, 4, 1), row(2, 0, 1, 4, 1),
                row(1, 0, 4, 0, 1), row(0, 0, 0, 0, 0), row(0, 0, 0, 0, 0));
        taken("one that got guards is not taken", guarded, 1, "+++-++", 4);
        CHECKS.same("the outer stays", guarded.shape(2, 5), 2);
        BundleMill gone = mill(row(1, 0, 1, 0, 0), row(2, 0, 2, 3, 0), row(1, 0, 3, 0, 1),
                row(1, 0, 5, 0, 1), row(2, 0, 3, 5, 0), row(0, 0, 0, 0, 0));
        taken("1 goes on coming to 3", gone, 1, "++-+++", 3);
        CHECKS.same("4 stays a branch", gone.shape(4, 5), 2);
        BundleMill free = mill(row(1, 0, 1, 0, 0), row(2, 0, 2, 3, 0), row(1, 0, 5, 0, 1),
                row(1, 0, 5, 0, 1), row(2, 0, 5, 1, 0), row(0, 0, 0, 0, 0));
        taken("two are gone", free, 1, "++--++", 5);
    }

    private static void compiledAgain() {
        BundleMill mill = mill(row(2, 0, 1, 2, 0), row(1, 0, 2, 0, 1), row(0, 0, 0, 0, 1));
        CHECKS.same("compile()", mill.compile(), 2);
        CHECKS.same("once more", mill.compile(), 2);
        CHECKS.same("operations", mill.shape(0, 0), 1);
        mill.block(1, 0, 1, 0);
        kept("one that comes to t", mill, 4);
        CHECKS.same("its guard", mill.place(1, 0, 1), 0);
        CHECKS.same("x as it was given", mill.shape(0, 0), 0);
        CHECKS.same("its end as it was given", mill.shape(0, 5), 2);
    }
}
