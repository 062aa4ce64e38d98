/** Terms, THE MACHINE: how many cycles a run takes, and its turns. */
public final class MachineTest extends Written {
    private static final Checks CHECKS = new Checks("MachineTest");

    public static void main(String[] args) {
        CHECKS.sentence("how many cycles it takes comes of the schedules",
                MachineTest::ofTheSchedules);
        CHECKS.sentence("A block takes L cycles, and one in which it ends", MachineTest::blocks);
        CHECKS.sentence("a LOOP by list v times L, and one", MachineTest::byList);
        CHECKS.sentence("none below 1", MachineTest::noneBelowOne);
        CHECKS.sentence("by modulo, too: one cycle, that in which it ends",
                MachineTest::noneByModulo);
        CHECKS.sentence("By modulo with v above 0: v + STAGES - 1 passes through its rows",
                MachineTest::byModulo);
        CHECKS.sentence("only slots whose p - stage is from 0 to v - 1 do something",
                MachineTest::onlySlots);
        CHECKS.sentence("further cycles, until (v - 1) * II + the greatest of cycle + latency are"
                + " gone, when these are more", MachineTest::furtherCycles);
        CHECKS.sentence("With a trap the cycle in which it is issued is the last one",
                MachineTest::traps);
        CHECKS.sentence("with a trap in a LOOP by list", MachineTest::trapsByList);
        CHECKS.sentence("with a trap in a LOOP by modulo", MachineTest::trapsByModulo);
        CHECKS.sentence("Each block that is come to makes a TURN", MachineTest::turns);
        CHECKS.sentence("a LOOP as many as v, but 1 at least", MachineTest::turnsOfLoops);
        CHECKS.end();
    }

    private static void cycles(String what, BundleMill mill, int due) {
        CHECKS.same(what, mill.run(), due);
    }

    private static void ofTheSchedules() {
        int[][] ops = {mul(1, 9, 9), mul(2, 9, 9), load(3, 9, 0), load(4, 9, 0), add(5, 1, 2)};
        int[][] sizes = {{1, 1, 1, 1, 8, 1}, {2, 1, 1, 1, 8, 1}, {2, 2, 1, 8, 8, 1},
            {1, 1, 8, 8, 8, 8}};
        int[] due = {3, 2, 9, 17};
        for (int k = 0; k < due.length; k++) {
            cycles("machine " + k, halting(machine(sizes[k]), ops), due[k] + 1);
        }
    }

    private static void blocks() {
        cycles("an empty block", halting(new BundleMill()), 1);
        cycles("L is 1", halting(new BundleMill(), set(1, 0)), 2);
        cycles("L is 8", halting(machine(1, 1, 1, 8, 8, 8), mul(1, 9, 9)), 9);
        BundleMill mill = lay(machine(1, 1, 1, 5, 1, 1), jump(1), mul(1, 9, 9));
        lay(mill, branch(0, 3, 2), set(1, 0), set(2, 0));
        lay(mill, halt(), mul(1, 9, 9));
        lay(mill, halt(), mul(1, 9, 9), mul(2, 9, 9));
        cycles("JUMP, BRANCH, HALT", compiled(mill), 5 + 1 + 2 + 1 + 5 + 1);
    }

    /** No II goes for this LOOP; L is 3. */
    private static BundleMill byList(int count) {
        return counted(machine(1, 1, 1, 1, 8, 2), count, store(3, 0, 1), out(1), load(3, 1, 0));
    }

    private static void byList() {
        for (int count = 1; count <= 98; count += count < 5 ? 1 : 31) {
            BundleMill mill = byList(count);
            CHECKS.same("by list", mill.shape(1, 3), 0);
            cycles(count + " times", mill, 2 + count * 3 + 1 + 1);
            CHECKS.same("outputs", mill.result(0), count);
        }
        cycles("without operations", counted(new BundleMill(), 50), 2 + 1 + 1);
    }

    private static void noneBelowOne() {
        for (int count : new int[] {0, -1, -100, MIN}) {
            cycles("by list, " + count, byList(count), 2 + 1 + 1);
            cycles("without operations, " + count, counted(new BundleMill(), count), 2 + 1 + 1);
            cycles("by modulo, " + count, counted(new BundleMill(), count, mul(1, 9, 9)),
                    2 + 1 + 1);
        }
    }

    /** II is 2, there are three stages. */
    private static BundleMill squares(int count) {
        BundleMill mill = counted(new BundleMill(), count, load(1, 0, 0), mul(2, 1, 1),
                step(0, 0, 1), add(3, 3, 2), out(3));
        for (int address = 0; address < 64; address++) {
            mill.poke(address, address + 1);
        }
        return mill;
    }

    /** Neither a pass nor a further cycle, whatever its II, STAGES and latencies are. */
    private static void noneByModulo() {
        for (int count : new int[] {0, -1, -2, -100, MIN}) {
            BundleMill staged = squares(count);
            CHECKS.same("STAGES", staged.shape(1, 4), 4);
            cycles("four stages, " + count, staged, 2 + 1 + 1);
            CHECKS.same("turns", staged.result(2), 3);
            CHECKS.same("outputs", staged.result(0), 0);
            CHECKS.same("steps", staged.variable(0), 0);
            BundleMill late = counted(machine(1, 1, 1, 8, 8, 8), count, mul(1, 11, 11));
            CHECKS.same("II", late.shape(1, 3), 1);
            cycles("latency 8, " + count, late, 2 + 1 + 1);
            BundleMill trap = counted(new BundleMill(), count, div(1, 9, 9));
            CHECKS.holds("by modulo", trap.shape(1, 3) > 0);
            cycles("no trap, " + count, trap, 2 + 1 + 1);
            CHECKS.same("trapped", trap.result(1), 0);
        }
    }

    private static void byModulo() {
        for (int count = 1; count <= 98; count += count < 6 ? 1 : 23) {
            BundleMill mill = squares(count);
            CHECKS.same("II", mill.shape(1, 3), 2);
            CHECKS.same("STAGES", mill.shape(1, 4), 4);
            cycles(count + " times", mill, 2 + (count + 4 - 1) * 2 + 1 + 1);
        }
        for (int latency = 2; latency <= 8; latency += 2) {
            BundleMill mill = counted(machine(4, 1, 1, latency, 1, 1), 5, mul(1, 2, 2), out(1),
                    load(3, 9, 0));
            CHECKS.same("STAGES", mill.shape(1, 4), latency / 2 + 1);
            cycles("the last pass to its end", mill, 2 + (5 + latency / 2) * 2 + 1 + 1);
        }
        BundleMill one = counted(machine(1, 1, 1, 1, 1, 1), 7, set(1, 0), set(2, 0));
        cycles("one stage", one, 2 + 7 * 2 + 1 + 1);
    }

    private static void onlySlots() {
        for (int count = 1; count < 7; count++) {
            BundleMill mill = squares(count);
            mill.run();
            CHECKS.same("outputs of " + count, mill.result(0), count);
            int sum = 0;
            for (int i = 0; i < count; i++) {
                sum += (i + 1) * (i + 1);
                CHECKS.same("output " + i, mill.output(i), sum);
            }
            CHECKS.same("steps", mill.variable(0), count);
        }
    }

    /** II 1 and one stage, but what is written comes behind the last pass. */
    private static void furtherCycles() {
        for (int count = 1; count < 4; count++) {
            for (int latency = 1; latency <= 8; latency++) {
                BundleMill mill = counted(machine(2, 1, 1, latency, 8, 2), count, mul(1, 11, 11));
                CHECKS.same("II", mill.shape(1, 3), 1);
                cycles(count + " times, latency " + latency, mill, 2 + count - 1 + latency + 2);
                CHECKS.same("what it wrote", mill.variable(1), count * count);
            }
        }
        for (int latency = 1; latency <= 8; latency++) {
            BundleMill mill = counted(machine(1, 1, 1, 1, 1, latency), 5, load(1, 9, 0),
                    load(2, 9, 0), load(3, 9, 0));
            CHECKS.same("II", mill.shape(1, 3), 3);
            cycles("latency " + latency, mill, 2 + Math.max(5 * 3, 4 * 3 + 2 + latency) + 2);
        }
        BundleMill ahead = counted(machine(1, 1, 1, 1, 8, 1), 3, guarded(1, div(1, 9, 9)),
                set(2, 0));
        CHECKS.same("II", ahead.shape(1, 3), 2);
        cycles("not the last one's", ahead, 2 + 2 * 2 + 8 + 2);
    }

    private static void traps() {
        for (int wait = 0; wait < 9; wait++) {
            BundleMill mill = lay(machine(1, 2, 1, 1, 8, 1), halt());
            for (int k = 0; k < wait; k++) {
                operate(mill, store(1, 0, 2));
            }
            operate(mill, div(1, 9, 9));
            mill.compile();
            CHECKS.same("DIV's cycle", mill.place(0, wait, 3), wait);
            cycles("behind " + wait, mill, wait + 1);
        }
        BundleMill second = lay(machine(1, 1, 1, 5, 8, 1), jump(1), mul(1, 9, 9));
        halting(second, out(1), div(2, 9, 9));
        cycles("in the second block", second, 5 + 1 + 1 + 1);
        BundleMill first = halting(machine(4, 2, 1, 1, 8, 1), div(1, 9, 9), div(2, 9, 9));
        cycles("of two the first", first, 1);
    }

    /** A LOOP by list, L is 5, whose second DIV stands in cycle 1. */
    private static void trapsByList() {
        BundleMill mill = lay(machine(1, 1, 1, 1, 1, 3), jump(1), set(11, 9), set(1, 8),
                set(2, 4), set(3, 1));
        lay(mill, loop(11, 2), div(3, 2, 3), div(2, 1, 2), out(1), load(2, 2, 0));
        compiled(lay(mill, halt()));
        CHECKS.same("by list", mill.shape(1, 3), 0);
        CHECKS.same("L", mill.shape(1, 1), 5);
        cycles("in the second time", mill, 5 + 5 + 1 + 1);
        CHECKS.same("outputs of the first", mill.result(0), 1);
        mill.poke(2, 6);
        cycles("in the third time", mill, 5 + 10 + 1 + 1);
        CHECKS.same("outputs of two", mill.result(0), 2);
    }

    /** A LOOP that divides by what a cell has, and puts that out: cell 3 has 0. */
    private static void trapsByModulo() {
        for (int good = 0; good < 6; good++) {
            BundleMill mill = counted(new BundleMill(), 9, load(1, 0, 0), div(2, 11, 1), out(1),
                    step(0, 0, 1));
            for (int address = 0; address < good; address++) {
                mill.poke(address, 7);
            }
            CHECKS.same("II", mill.shape(1, 3), 2);
            CHECKS.same("DIV's cycle", mill.place(1, 1, 4), 2);
            cycles("a trap behind " + good, mill, 2 + good * 2 + 2 + 1);
            CHECKS.same("outputs", mill.result(0), good);
        }
        BundleMill one = counted(machine(4, 2, 1, 8, 8, 1), 9, div(2, 11, 1), mul(1, 3, 3));
        CHECKS.same("II", one.shape(1, 3), 1);
        CHECKS.same("DIV's cycle by list", one.place(1, 0, 3), 0);
        CHECKS.same("DIV's cycle by modulo", one.place(1, 0, 4), 7);
        cycles("a trap with II 1", one, 2 + 7 + 1);
    }

    private static int turnsOf(BundleMill mill) {
        mill.run();
        return mill.result(2);
    }

    private static void turns() {
        CHECKS.same("one", turnsOf(halting(new BundleMill())), 1);
        BundleMill mill = lay(lay(new BundleMill(), jump(1)), branch(0, 2, 3));
        lay(lay(mill, halt()), jump(4));
        CHECKS.same("four", turnsOf(compiled(lay(mill, halt()))), 4);
        BundleMill gone = lay(lay(new BundleMill(), branch(0, 1, 2)), jump(2), set(1, 0));
        CHECKS.same("none of one that is gone", turnsOf(halting(gone)), 2);
        BundleMill again = lay(new BundleMill(), branch(2, 0, 1), step(1, 1, 1), set(3, 5),
                less(2, 1, 3));
        CHECKS.same("five of block 0", turnsOf(halting(again)), 6);
        CHECKS.same("a trap's", turnsOf(halting(new BundleMill(), div(1, 2, 3))), 1);
    }

    private static void turnsOfLoops() {
        int[][] due = {{MIN, 1}, {-1, 1}, {0, 1}, {1, 1}, {2, 2}, {3, 3}, {98, 98}};
        for (int[] row : due) {
            CHECKS.same("by modulo " + row[0], turnsOf(counted(new BundleMill(), row[0],
                    set(1, 0))), row[1] + 2);
            CHECKS.same("by list " + row[0], turnsOf(byList(row[0])), row[1] + 2);
            CHECKS.same("without operations " + row[0], turnsOf(counted(new BundleMill(),
                    row[0])), row[1] + 2);
        }
    }
}
