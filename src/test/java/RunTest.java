/** Promise 9: run. */
public final class RunTest {
    private static final Checks CHECKS = new Checks("RunTest");

    public static void main(String[] args) {
        mustBeCompiled();
        whatOperationsDo();
        guards();
        ends();
        loopsByModulo();
        loopsByList();
        longPipelines();
        traps();
        turns();
        refusedRuns();
        CHECKS.end();
    }

    private static void mustBeCompiled() {
        BundleMill mill = new BundleMill();
        CHECKS.refuses(Checks.STATE, "no block", mill::run);
        mill.block(0, 0, 0, 0);
        CHECKS.refuses(Checks.STATE, "not compiled", mill::run);
        mill.compile();
        CHECKS.same("an empty block", mill.run(), 1);
        CHECKS.same("once more", mill.run(), 1);
        mill.operation(4, 0, 0, 0, 0, 0);
        CHECKS.refuses(Checks.STATE, "not compiled anew", mill::run);
        mill.compile();
        CHECKS.same("L and one", mill.run(), 4);
    }

    /** One operation of a = -7 and b: what it gives. */
    private static void gives(String what, int code, int a, int b, int n, int due) {
        BundleMill mill = new BundleMill();
        mill.block(0, 0, 0, 0);
        mill.operation(0, 1, 0, 0, a, 0);
        mill.operation(0, 2, 0, 0, b, 0);
        mill.operation(code, 3, 1, 2, n, 0);
        mill.compile();
        mill.poke(5, 555);
        mill.run();
        CHECKS.same(what, mill.variable(3), due);
        CHECKS.same(what + " is no trap", mill.result(1), 0);
    }

    private static void whatOperationsDo() {
        int least = Integer.MIN_VALUE;
        int most = Integer.MAX_VALUE;
        gives("SET", 0, 1, 2, 77, 77);
        gives("STEP", 1, 5, 2, -8, -3);
        gives("STEP wraps", 1, most, 2, 1, least);
        gives("ADD", 2, 5, 7, 100, 12);
        gives("ADD wraps", 2, least, -1, 0, most);
        gives("SUB", 3, 5, 7, 100, -2);
        gives("SUB wraps", 3, least, 1, 0, most);
        gives("MUL", 4, -5, 7, 100, -35);
        gives("MUL wraps", 4, 65536, 65536, 0, 0);
        gives("LESS", 5, -5, 7, 100, 1);
        gives("LESS of the same", 5, 7, 7, 100, 0);
        gives("LESS of a greater one", 5, most, least, 100, 0);
        gives("DIV", 6, -7, 2, 100, -3);
        gives("DIV wraps", 6, least, -1, 100, least);
        gives("LOAD", 7, 3, 0, 2, 555);
        gives("LOAD, six bits", 7, -64, 0, 5, 555);
        gives("LOAD, an address that wraps", 7, most, 0, most - 57, 555);
        gives("LOAD, another that wraps", 7, most, 0, 6, 555);
        gives("STORE writes none", 8, 3, 4, 2, 0);
        gives("OUT writes none", 9, 3, 4, 2, 0);
        BundleMill mill = new BundleMill();
        mill.block(0, 0, 0, 0);
        mill.operation(0, 1, 0, 0, 9, 0);
        mill.operation(8, 5, 1, 1, -10, 0);
        mill.operation(9, 6, 1, 2, 3, 0);
        mill.compile();
        mill.run();
        CHECKS.same("STORE", mill.peek(63), 9);
        CHECKS.same("OUT", mill.output(0), 9);
    }

    private static void guards() {
        BundleMill mill = new BundleMill();
        mill.block(0, 0, 0, 0);
        mill.operation(0, 11, 0, 0, -1, 0);
        mill.operation(0, 1, 0, 0, 1, 12);
        mill.operation(0, 2, 0, 0, 2, -12);
        mill.operation(0, 3, 0, 0, 3, 1);
        mill.operation(0, 4, 0, 0, 4, -1);
        mill.operation(6, 5, 11, 0, 0, 1);
        mill.operation(9, 0, 11, 0, 0, -12);
        mill.operation(8, 0, 0, 11, 0, -12);
        mill.operation(9, 0, 4, 0, 0, 12);
        mill.compile();
        mill.run();
        int[] due = {0, 1, 0, 0, 4, 0};
        for (int v = 0; v < due.length; v++) {
            CHECKS.same("variable " + v, mill.variable(v), due[v]);
        }
        CHECKS.same("a DIV that does nothing is no trap", mill.result(1), 0);
        CHECKS.same("outputs", mill.result(0), 1);
        CHECKS.same("output 0", mill.output(0), 4);
        CHECKS.same("memory", mill.peek(0), 0);
    }

    private static void ends() {
        for (int v = -1; v <= 1; v++) {
            BundleMill mill = new BundleMill();
            mill.block(1, 0, 3, 0);
            mill.operation(0, 7, 0, 0, v, 0);
            mill.block(0, 0, 0, 0);
            mill.operation(9, 0, 7, 0, 0, 0);
            mill.block(0, 0, 0, 0);
            mill.block(2, 7, 1, 2);
            mill.operation(4, 1, 0, 0, 0, 0);
            mill.compile();
            CHECKS.same("a branch by " + v, mill.run(), v == 0 ? 2 + 4 + 1 : 2 + 4 + 2);
            CHECKS.same("where it went", mill.result(0), v == 0 ? 0 : 1);
        }
        BundleMill mill = new BundleMill();
        mill.block(2, 0, 1, 2);
        mill.operation(0, 0, 0, 0, 1, 0);
        mill.operation(9, 0, 3, 0, 0, 0);
        mill.block(0, 0, 0, 0);
        mill.block(0, 0, 0, 0);
        mill.operation(9, 0, 0, 0, 0, 0);
        mill.compile();
        mill.run();
        CHECKS.same("what the block itself wrote tells", mill.result(0), 1);
    }

    /** A count, then a loop of a step and a sum of products, then an OUT. */
    private static BundleMill sum(int count) {
        BundleMill mill = new BundleMill();
        mill.block(1, 0, 1, 0);
        mill.operation(0, 11, 0, 0, count, 0);
        mill.block(3, 11, 2, 0);
        mill.operation(7, 1, 0, 0, 0, 0);
        mill.operation(4, 2, 1, 1, 0, 0);
        mill.operation(1, 0, 0, 0, 1, 0);
        mill.operation(2, 3, 3, 2, 0, 0);
        mill.block(0, 0, 0, 0);
        mill.operation(9, 0, 3, 0, 0, 0);
        for (int address = 0; address < 64; address++) {
            mill.poke(address, address + 1);
        }
        mill.compile();
        return mill;
    }

    private static void loopsByModulo() {
        int[][] due = {{-5, 0, 1, 0}, {0, 0, 1, 0}, {1, 1, 1, 7}, {2, 5, 2, 9}, {3, 14, 3, 11},
            {4, 30, 4, 13}, {10, 385, 10, 25}, {Integer.MIN_VALUE, 0, 1, 0}};
        for (int[] row : due) {
            BundleMill mill = sum(row[0]);
            CHECKS.same("II", mill.shape(1, 3), 2);
            CHECKS.same("STAGES", mill.shape(1, 4), 3);
            int loop = row[0] > 0 ? (row[0] + 2) * 2 + 1 : 1;
            CHECKS.same("cycles of " + row[0], mill.run(), 2 + loop + 2);
            CHECKS.same("its sum", mill.output(0), row[1]);
            CHECKS.same("its turns", mill.result(2), row[2] + 2);
            CHECKS.same("its steps", mill.variable(0), Math.max(row[0], 0));
        }
    }

    private static void loopsByList() {
        for (int count = -1; count < 5; count++) {
            BundleMill mill = new BundleMill();
            mill.machine(1, 1, 1, 1, 8, 2);
            mill.block(1, 0, 1, 0);
            mill.operation(0, 11, 0, 0, count, 0);
            mill.block(3, 11, 2, 0);
            mill.operation(8, 0, 3, 1, 0, 0);
            mill.operation(9, 0, 1, 0, 0, 0);
            mill.operation(7, 3, 1, 0, 0, 0);
            mill.block(0, 0, 0, 0);
            mill.compile();
            CHECKS.same("by list", mill.shape(1, 3), 0);
            CHECKS.same("cycles of " + count, mill.run(), 2 + Math.max(count, 0) * 3 + 1 + 1);
            CHECKS.same("outputs", mill.result(0), Math.max(count, 0));
        }
        BundleMill empty = new BundleMill();
        empty.block(1, 0, 1, 0);
        empty.operation(0, 11, 0, 0, 50, 0);
        empty.block(3, 11, 2, 0);
        empty.block(0, 0, 0, 0);
        empty.compile();
        CHECKS.same("a loop without operations", empty.run(), 2 + 1 + 1);
        CHECKS.same("its turns", empty.result(2), 52);
    }

    /** II 1 and one stage, but what is written comes seven cycles behind the last pass. */
    private static void longPipelines() {
        for (int count = 1; count < 4; count++) {
            BundleMill mill = new BundleMill();
            mill.machine(2, 1, 1, 8, 8, 2);
            mill.block(1, 0, 1, 0);
            mill.operation(0, 11, 0, 0, count, 0);
            mill.block(3, 11, 2, 0);
            mill.operation(4, 1, 11, 11, 0, 0);
            mill.block(0, 0, 0, 0);
            mill.compile();
            CHECKS.same("II", mill.shape(1, 3), 1);
            CHECKS.same("cycles of " + count, mill.run(), 2 + (count - 1 + 8) + 1 + 1);
            CHECKS.same("what it wrote", mill.variable(1), count * count);
        }
    }

    /** A loop that divides by what a cell has, and puts that out. */
    private static BundleMill divider(int count) {
        BundleMill mill = new BundleMill();
        mill.block(1, 0, 1, 0);
        mill.operation(0, 11, 0, 0, count, 0);
        mill.block(3, 11, 2, 0);
        mill.operation(7, 1, 0, 0, 0, 0);
        mill.operation(6, 2, 11, 1, 0, 0);
        mill.operation(9, 0, 1, 0, 0, 0);
        mill.operation(1, 0, 0, 0, 1, 0);
        mill.block(0, 0, 0, 0);
        for (int address = 0; address < 3; address++) {
            mill.poke(address, 7);
        }
        mill.compile();
        return mill;
    }

    private static void traps() {
        BundleMill mill = divider(3);
        int interval = mill.shape(1, 3);
        int cycle = mill.place(1, 1, 4);
        CHECKS.same("II", interval, 2);
        CHECKS.same("DIV's cycle", cycle, 2);
        mill.run();
        CHECKS.same("no trap", mill.result(1), 0);
        BundleMill trapped = divider(9);
        CHECKS.same("the fourth DIV's cycle is the last", trapped.run(), 2 + 3 * 2 + 2 + 1);
        CHECKS.same("a trap", trapped.result(1), 1);
        CHECKS.same("outputs ahead of it", trapped.result(0), 3);
        CHECKS.same("turns, all of the loop", trapped.result(2), 10);
        BundleMill block = new BundleMill();
        block.machine(1, 2, 1, 1, 1, 1);
        block.block(0, 0, 0, 0);
        block.operation(8, 0, 0, 0, 5, 0);
        block.operation(0, 1, 0, 0, 8, 0);
        block.operation(8, 0, 0, 1, 6, 0);
        block.operation(6, 1, 1, 2, 0, 0);
        block.operation(8, 0, 0, 1, 7, 0);
        block.compile();
        block.poke(5, 1);
        block.poke(6, 1);
        block.poke(7, 1);
        CHECKS.same("DIV's cycle and one", block.run(), block.place(0, 3, 3) + 1);
        CHECKS.same("stored ahead of it", block.peek(5), 0);
        CHECKS.same("that too", block.peek(6), 8);
        CHECKS.same("not behind it", block.peek(7), 1);
        listTrap();
    }

    /** A loop by list, L is 5, whose second DIV stands in cycle 1. */
    private static void listTrap() {
        BundleMill mill = new BundleMill();
        mill.machine(1, 1, 1, 1, 1, 3);
        mill.block(1, 0, 1, 0);
        mill.operation(0, 11, 0, 0, 9, 0);
        mill.operation(0, 1, 0, 0, 8, 0);
        mill.operation(0, 2, 0, 0, 4, 0);
        mill.operation(0, 3, 0, 0, 1, 0);
        mill.block(3, 11, 2, 0);
        mill.operation(6, 3, 2, 3, 0, 0);
        mill.operation(6, 2, 1, 2, 0, 0);
        mill.operation(9, 0, 1, 0, 0, 0);
        mill.operation(7, 2, 2, 0, 0, 0);
        mill.block(0, 0, 0, 0);
        mill.compile();
        CHECKS.same("by list", mill.shape(1, 3), 0);
        CHECKS.same("a trap in the second time", mill.run(), 5 + 5 + 1 + 1);
        CHECKS.same("outputs of the first", mill.result(0), 1);
        mill.poke(2, 6);
        CHECKS.same("a trap in the third time", mill.run(), 5 + 10 + 1 + 1);
        CHECKS.same("it traps", mill.result(1), 1);
        CHECKS.same("all turns of the loop", mill.result(2), 10);
    }

    /** A loop of so many turns, and a HALT: with block 0 two turns more. */
    private static void turns() {
        CHECKS.same("98 and 2", sum(98).run(), 2 + 201 + 2);
        CHECKS.refuses(Checks.UNSUPPORTED, "99 and 2", sum(99)::run);
        CHECKS.refuses(Checks.UNSUPPORTED, "far more", sum(Integer.MAX_VALUE)::run);
        BundleMill ring = new BundleMill();
        ring.block(1, 0, 0, 0);
        ring.compile();
        CHECKS.refuses(Checks.UNSUPPORTED, "a ring", ring::run);
        CHECKS.same("nothing told", ring.result(2), 0);
        counted(100);
        counted(101);
    }

    /** A block that comes to itself until its count is told, and so is no guard's. */
    private static void counted(int count) {
        BundleMill mill = new BundleMill();
        mill.block(2, 2, 0, 1);
        mill.operation(1, 1, 1, 0, 1, 0);
        mill.operation(0, 3, 0, 0, count - 1, 0);
        mill.operation(5, 2, 1, 3, 0, 0);
        mill.block(0, 0, 0, 0);
        mill.compile();
        if (count > 100) {
            CHECKS.refuses(Checks.UNSUPPORTED, "turn 101", mill::run);
        } else {
            mill.run();
            CHECKS.same("turns", mill.result(2), count);
            CHECKS.same("steps", mill.variable(1), count - 1);
        }
    }

    private static void refusedRuns() {
        BundleMill mill = new BundleMill();
        mill.block(1, 0, 1, 0);
        mill.operation(7, 11, 0, 0, 0, 0);
        mill.operation(9, 0, 11, 0, 0, 0);
        mill.operation(8, 0, 0, 11, 1, 0);
        mill.block(3, 11, 2, 0);
        mill.block(0, 0, 0, 0);
        mill.compile();
        mill.poke(0, 5);
        mill.run();
        mill.poke(0, 99);
        CHECKS.refuses(Checks.UNSUPPORTED, "a run of 101 turns", mill::run);
        CHECKS.same("memory", mill.peek(1), 5);
        CHECKS.same("outputs", mill.result(0), 1);
        CHECKS.same("output 0", mill.output(0), 5);
        CHECKS.same("turns", mill.result(2), 7);
        CHECKS.same("variable 11", mill.variable(11), 5);
        mill.poke(0, 98);
        CHECKS.same("a run of 100 turns", mill.run(), mill.shape(0, 1) + 1 + 1 + 1);
        CHECKS.same("memory behind it", mill.peek(1), 98);
        mill.poke(1, 3);
        mill.run();
        CHECKS.same("memory behind the next", mill.peek(1), 98);
    }
}
