/** Terms, A MODULO SCHEDULE: MII, the tries and the stages. */
public final class ModuloTest extends Written {
    private static final Checks CHECKS = new Checks("ModuloTest");

    public static void main(String[] args) {
        CHECKS.sentence("for a LOOP with operations", ModuloTest::loopsWithOperations);
        CHECKS.sentence("the greatest of 1", ModuloTest::oneAtLeast);
        CHECKS.sentence("ALU operations by ALUs (rounded up)", ModuloTest::byAlus);
        CHECKS.sentence("and PORT operations by PORTS (rounded up)", ModuloTest::byPorts);
        CHECKS.sentence("along no closed way of edges the delays are more than II times the"
                + " distances", ModuloTest::closedWays);
        CHECKS.sentence("II from MII", ModuloTest::fromLeast);
        CHECKS.sentence("to L are tried", ModuloTest::toLength);
        CHECKS.sentence("the first that goes is taken", ModuloTest::firstThatGoes);
        CHECKS.sentence("when none goes the list schedule is", ModuloTest::noneGoes);
        tries();
        CHECKS.end();
    }

    private static void tries() {
        CHECKS.sentence("the PRIORITY of i is the greatest of delay - II * distance + priority of"
                + " j", ModuloTest::priorities);
        CHECKS.sentence("0 at least", ModuloTest::leastPriority);
        CHECKS.sentence("of these the lowest number", ModuloTest::lowestNumber);
        CHECKS.sentence("In as many steps as 6 times the operations at most", ModuloTest::steps);
        CHECKS.sentence("EARLY is the greatest, 0 at least, of cycle + delay - II * distance",
                ModuloTest::early);
        CHECKS.sentence("the first cycle from EARLY to EARLY + II - 1 in whose ROW a unit is free",
                ModuloTest::firstFree);
        CHECKS.sentence("those others to which an edge comes from it lose theirs",
                ModuloTest::loseTheirs);
        CHECKS.sentence("where its cycle + delay - II * distance is above theirs",
                ModuloTest::aboveTheirs);
        CHECKS.sentence("the STAGE, cycle / II, of none is above 15", ModuloTest::mostStage);
        CHECKS.sentence("STAGES are the greatest one plus 1", ModuloTest::stages);
    }

    /** MII, II, STAGES, then the cycles by modulo. */
    private static void shape(String what, BundleMill mill, int... due) {
        for (int k = 0; k < due.length; k++) {
            CHECKS.same(what + ": " + (k < 3 ? "shape " + (k + 2) : "cycle of " + (k - 3)),
                    k < 3 ? mill.shape(0, 2 + k) : mill.place(0, k - 3, 4), due[k]);
        }
    }

    private static BundleMill wide() {
        return machine(4, 2, 2, 3, 8, 4);
    }

    private static void loopsWithOperations() {
        shape("a LOOP of one", looping(wide(), set(1, 0)), 1, 1, 1, 0);
        shape("a LOOP without operations", looping(wide()), 0, 0, 0);
        for (int[] end : new int[][] {halt(), jump(0), branch(0, 0, 0)}) {
            shape("end " + end[0], compiled(lay(wide(), end, set(1, 0))), 0, 0, 0,
                    BundleMill.NONE);
        }
        BundleMill alone = compiled(lay(lay(wide(), halt()), loop(0, 0), set(1, 0)));
        CHECKS.same("one that nothing comes to", alone.shape(1, 3), 1);
    }

    private static void oneAtLeast() {
        shape("a SET", looping(machine(4, 2, 1, 1, 1, 1), set(1, 0)), 1, 1, 1, 0);
        shape("of latency 8", looping(machine(4, 2, 8, 8, 8, 8), set(1, 0)), 1, 1, 1, 0);
        shape("an OUT", looping(machine(4, 2, 8, 8, 8, 8), out(1)), 1, 1, 1, 0);
    }

    private static void byAlus() {
        int[][] due = {{1, 2, 3, 4, 5, 6, 7, 8, 9, 10}, {1, 1, 2, 2, 3, 3, 4, 4, 5, 5},
            {1, 1, 1, 2, 2, 2, 3, 3, 3, 4}, {1, 1, 1, 1, 2, 2, 2, 2, 3, 3}};
        for (int alus = 1; alus <= 4; alus++) {
            for (int count = 1; count <= 10; count++) {
                int[][] ops = new int[count][];
                for (int k = 0; k < count; k++) {
                    ops[k] = less(k, 11, 11);
                }
                int least = due[alus - 1][count - 1];
                shape(count + " by " + alus, looping(machine(alus, 1, 1, 1, 1, 1), ops), least,
                        least, 1);
            }
        }
    }

    private static void byPorts() {
        for (int ports = 1; ports <= 2; ports++) {
            for (int count = 1; count <= 10; count++) {
                int[][] ops = new int[count][];
                for (int k = 0; k < count; k++) {
                    ops[k] = load(k, 11, 0);
                }
                int least = ports == 1 ? count : (count + 1) / 2;
                shape(count + " by " + ports, looping(machine(1, ports, 1, 1, 1, 1), ops), least,
                        least, 1);
            }
        }
        shape("the greater of both", looping(machine(2, 1, 1, 1, 1, 1), set(1, 0), set(2, 0),
                set(3, 0), load(4, 11, 0)), 2, 2, 1);
    }

    private static void closedWays() {
        for (int latency = 1; latency <= 8; latency++) {
            shape("a sum of latency " + latency, looping(machine(1, 1, latency, 1, 1, 1),
                    add(1, 1, 2)), latency, latency, 1, 0);
            shape("two in a ring", looping(machine(1, 1, 2, latency, 1, 1), mul(1, 2, 2),
                    step(2, 1, 0)), latency + 2, latency + 2, 1, 0, latency);
        }
        shape("a guard", looping(machine(1, 1, 1, 4, 1, 1), guarded(-2, mul(1, 3, 3))), 4, 4, 1);
        shape("written late, then soon", looping(machine(4, 2, 1, 4, 1, 1), mul(1, 2, 2),
                set(1, 0)), 2, 2, 3, 0, 4);
        shape("seven in two times", looping(machine(4, 2, 2, 3, 8, 4), load(4, 1, 0),
                step(1, 1, 1), add(5, 4, 6), store(1, 1, 5)), 4);
        shape("OUTs", looping(machine(1, 2, 1, 1, 1, 1), out(1), out(1)), 2, 2, 1, 0, 1);
        shape("DIV and STORE", looping(machine(1, 2, 1, 1, 8, 1), div(1, 2, 3), store(4, 0, 5)),
                2, 2, 1, 0, 1);
    }

    private static void fromLeast() {
        shape("MII goes", looping(machine(2, 1, 1, 3, 8, 2), load(1, 0, 0), mul(2, 1, 1),
                step(0, 0, 1), add(3, 3, 2)), 2, 2, 3, 0, 2, 0, 5);
        shape("MII by a ring", looping(machine(1, 1, 5, 1, 1, 1), step(1, 1, 1), step(2, 1, 1)),
                5, 5, 2, 0, 6);
    }

    private static void toLength() {
        BundleMill last = looping(machine(4, 2, 1, 1, 8, 2), out(1), set(1, 0));
        CHECKS.same("L is 1", last.shape(0, 1), 1);
        shape("II 1 goes", last, 1, 1, 1, 0, 0);
        BundleMill none = looping(machine(1, 1, 1, 3, 8, 3), less(2, 2, 4), add(4, 3, 3),
                div(2, 3, 2));
        CHECKS.same("L is 9", none.shape(0, 1), 9);
        shape("II 9 does not go, 10 is not tried", none, 9, 0, 0);
    }

    /** With II 2 the three drive one another out until the 18 steps are over. */
    private static void firstThatGoes() {
        shape("the next one", looping(machine(2, 1, 1, 2, 8, 2), step(1, 1, -1), mul(1, 3, 3),
                op(3, 2, 1, 3, -1, 0)), 2, 3, 1, 0, 0, 2);
        shape("the first one of several", looping(machine(1, 1, 1, 8, 8, 8), mul(1, 2, 2),
                mul(3, 1, 1)), 2, 2, 5, 0, 9);
    }

    /** The STORE and the LOAD drive one another out, with the 3 that is MII and L. */
    private static void noneGoes() {
        BundleMill mill = looping(machine(1, 1, 1, 1, 8, 2), store(3, 0, 1), out(1),
                load(3, 1, 0));
        int none = BundleMill.NONE;
        shape("none goes", mill, 3, 0, 0, none, none, none);
        CHECKS.same("L", mill.shape(0, 1), 3);
        CHECKS.same("the LOAD by list", mill.place(0, 2, 3), 1);
        CHECKS.same("the OUT by list", mill.place(0, 1, 3), 2);
        CHECKS.same("the bundles of the list", mill.compile(), 3);
        CHECKS.same("its rows", mill.filled(0), 3 / 6.0);
        CHECKS.refuses(Checks.INDEX, "no modulo rows", () -> mill.bundle(0, 0, true));
    }

    /** In the first case the SUB is first by its number: both have 0, whatever their latencies. */
    private static void priorities() {
        shape("not by latency", looping(machine(1, 1, 2, 4, 8, 2), guarded(-3,
                op(3, 2, 1, 2, 1, 0)), div(3, 1, 1)), 2, 2, 1, 0, 1);
        shape("the greatest first", looping(machine(1, 1, 1, 3, 8, 2), set(1, 0), mul(2, 3, 3),
                step(4, 2, 0)), 3, 3, 2, 1, 0, 5);
        shape("a way of two", looping(machine(1, 1, 1, 3, 8, 2), set(1, 0), step(5, 6, 0),
                mul(2, 3, 3), mul(4, 2, 2), step(7, 4, 0)), 5, 5, 2, 1, 2, 0, 3, 9);
        shape("the next time's, too", looping(machine(1, 1, 8, 3, 8, 2), step(1, 2, 0),
                set(3, 0), mul(4, 4, 4), set(2, 0)), 4, 4, 2, 5, 2, 3, 0);
    }

    /**
     * All four have 0, though the first one's only edge has a delay below 0: so it comes first, and
     * the MUL, which drives it out, second; the other two fill the rows that they leave.
     */
    private static void leastPriority() {
        shape("delays below 0", looping(machine(1, 1, 1, 4, 8, 2), set(1, 0), mul(1, 5, 5),
                set(2, 0), set(3, 0)), 4, 4, 1, 2, 1, 0, 3);
        shape("none", looping(machine(1, 1, 1, 1, 8, 2), set(1, 0), set(2, 0), set(3, 0)), 3, 3,
                1, 0, 1, 2);
    }

    private static void lowestNumber() {
        shape("of the same priority", looping(machine(1, 1, 3, 2, 8, 3), less(3, 4, 3),
                set(2, 1)), 3, 3, 1, 0, 1);
        shape("five", looping(machine(2, 1, 1, 1, 1, 1), less(1, 11, 11), less(2, 11, 11),
                less(3, 11, 11), less(4, 11, 11), less(5, 11, 11)), 3, 3, 1, 0, 0, 1, 1, 2);
    }

    /** The first goes in the last of the 36 steps it has, the others in one more than they have. */
    private static void steps() {
        BundleMill inTime = looping(machine(1, 1, 1, 2, 8, 2), mul(2, 3, 2), load(3, 2, 0),
                set(4, 0), op(3, 2, 3, 2, 0, 0), step(1, 2, 1), mul(4, 3, 2));
        CHECKS.same("the last step", inTime.shape(0, 3), 6);
        BundleMill late = looping(machine(1, 1, 2, 3, 8, 2), set(2, 0), set(3, -1),
                mul(2, 2, 2), add(1, 4, 2), op(3, 1, 1, 2, 0, 0));
        CHECKS.same("one step too many", late.shape(0, 3), 7);
        shape("the last of 30", looping(machine(1, 1, 1, 3, 8, 1), store(4, 1, 2), add(3, 3, 4),
                load(3, 4, -1), step(4, 4, -1), guarded(-3, div(4, 2, 2))), 9, 9, 2, 10, 10, 11,
                12, 11);
        shape("one more than 24", looping(machine(1, 1, 7, 5, 5, 1), set(3, 0), mul(1, 1, 2),
                step(3, 2, 0), mul(3, 3, 1)), 7, 9, 1, 0, 2, 1, 8);
    }

    private static void early() {
        shape("what is there later", looping(machine(1, 1, 1, 3, 8, 5), load(1, 9, 0),
                mul(2, 1, 1), step(3, 2, 0)), 2, 2, 5, 0, 5, 8);
        shape("0 at least", looping(machine(4, 2, 8, 8, 8, 8), out(1), set(1, 0)), 1, 1, 8, 7, 0);
        shape("of the time before", looping(machine(4, 2, 8, 8, 8, 8), step(2, 1, 0),
                set(1, 0)), 1, 1, 8, 7, 0);
    }

    private static void firstFree() {
        shape("the rows behind", looping(machine(1, 1, 1, 3, 8, 2), mul(1, 2, 2), step(3, 1, 0),
                step(4, 1, 0)), 3, 3, 2, 0, 4, 5);
        shape("two of a row", looping(machine(2, 1, 1, 3, 8, 2), mul(1, 2, 2), step(3, 1, 0),
                step(4, 1, 0)), 2, 2, 2, 0, 3, 3);
        shape("PORTS don't take ALUs", looping(machine(1, 1, 1, 3, 8, 2), load(1, 9, 0),
                set(2, 0)), 1, 1, 1, 0, 0);
        shape("one that lost its cycle begins at EARLY", looping(machine(1, 2, 2, 2, 8, 2),
                step(4, 2, 1), op(3, 4, 4, 3, 0, 0), step(1, 2, 1), less(1, 1, 4)), 4, 5, 1, 0, 2,
                1, 4);
    }

    /**
     * The priorities are 3, 1, 0. The cycles: 0, 2 and 4, which drives out the SUB; this gets 5,
     * which drives out both others; they get 1 and 6.
     */
    private static void loseTheirs() {
        shape("three", looping(machine(1, 1, 1, 2, 8, 1), mul(2, 2, 2), op(3, 3, 2, 1, 0, 0),
                mul(3, 3, 1)), 3, 3, 3, 1, 5, 6);
        shape("one ahead", looping(machine(1, 2, 2, 4, 8, 3), add(1, 1, 2), step(2, 2, 0)), 2, 2,
                2, 2, 1);
        shape("one behind", looping(machine(1, 1, 7, 6, 8, 3), mul(2, 4, 4), less(2, 1, 1)), 2, 3,
                1, 0, 1);
    }

    /** In the first case the ADD gets cycle 2, and 2 - 1 is not above the STEP's 1. */
    private static void aboveTheirs() {
        shape("the same is not above", looping(machine(1, 2, 2, 4, 8, 3), add(1, 1, 2),
                step(2, 2, 0)), 2, 2, 2, 2, 1);
        shape("in the same cycle", looping(machine(4, 2, 1, 1, 8, 2), out(1),
                guarded(-2, set(1, -1))), 1, 1, 1, 0, 0);
    }

    private static void mostStage() {
        shape("16", looping(machine(2, 1, 1, 8, 8, 2), mul(1, 3, 3), mul(2, 1, 1), out(2)), 1, 2,
                9, 0, 8, 16);
        shape("15", looping(machine(2, 2, 1, 8, 8, 7), mul(1, 3, 3), load(2, 1, 1), out(2)), 1, 1,
                16, 0, 8, 15);
        shape("16 by a SET and a LESS", looping(machine(4, 2, 8, 6, 3, 8), set(1, 0),
                less(2, 1, 1), out(2)), 1, 2, 9, 0, 8, 16);
    }

    private static void stages() {
        shape("one", looping(machine(1, 1, 1, 1, 1, 1), set(1, 0), set(2, 0)), 2, 2, 1, 0, 1);
        for (int latency = 1; latency <= 8; latency++) {
            shape("latency " + latency, looping(machine(4, 2, 1, latency, 1, 1), mul(1, 2, 2),
                    out(1)), 1, 1, latency + 1, 0, latency);
            shape("two rows, latency " + latency, looping(machine(4, 1, 1, latency, 1, 1),
                    mul(1, 2, 2), out(1), load(3, 9, 0)), 2, 2, latency / 2 + 1, 0, latency);
        }
    }
}
