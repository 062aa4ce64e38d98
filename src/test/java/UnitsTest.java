/** Terms, UNITS and LATENCIES. */
public final class UnitsTest extends Written {
    private static final Checks CHECKS = new Checks("UnitsTest");

    public static void main(String[] args) {
        CHECKS.sentence("codes 0 .. 6 take an ALU, 7 .. 9 a PORT", UnitsTest::whoTakesWhat);
        CHECKS.sentence("for one cycle", UnitsTest::forOneCycle);
        CHECKS.sentence("DIV, MUL, LOAD have their own", UnitsTest::ownLatencies);
        CHECKS.sentence("STORE and OUT 1", UnitsTest::storeAndOut);
        CHECKS.sentence("others that of PLAIN ones", UnitsTest::plainOnes);
        CHECKS.sentence("it reads in this cycle", UnitsTest::readsInItsCycle);
        CHECKS.sentence("what it writes is there from this cycle plus its latency on",
                UnitsTest::isThereFrom);
        CHECKS.sentence("who reads before that has what was there", UnitsTest::readsBefore);
        CHECKS.sentence("OUT puts out in its cycle", UnitsTest::putsOutInItsCycle);
        CHECKS.end();
    }

    private static boolean together(BundleMill mill, int[]... ops) {
        halting(mill, ops);
        return mill.place(0, 0, 3) == mill.place(0, 1, 3);
    }

    private static void whoTakesWhat() {
        for (int code = 0; code < 10; code++) {
            int[] one = op(code, 1, 2, 3, 0, 0);
            CHECKS.holds(code + " beside a SET, one ALU", code >= 7
                    == together(machine(1, 2, 1, 1, 1, 1), one, set(5, 0)));
            CHECKS.holds(code + " behind a SET, one ALU", code >= 7
                    == together(machine(1, 2, 1, 1, 1, 1), set(5, 0), one));
            CHECKS.holds(code + " beside a LOAD, one PORT", code < 7
                    == together(machine(4, 1, 1, 1, 1, 1), one, load(5, 2, 1)));
            CHECKS.holds(code + " behind a LOAD, one PORT", code < 7
                    == together(machine(4, 1, 1, 1, 1, 1), load(5, 2, 1), one));
        }
        for (int alus = 1; alus <= 4; alus++) {
            BundleMill mill = halting(machine(alus, 1, 1, 1, 1, 1), times(10, out(0)));
            CHECKS.same("OUTs tell nothing of ALUs", mill.shape(0, 1), 10);
            BundleMill ten = lay(machine(alus, 2, 1, 1, 1, 1), halt());
            for (int k = 0; k < 10; k++) {
                operate(ten, less(k, 11, 11));
            }
            ten.compile();
            CHECKS.same("ten by " + alus + " ALUs", ten.shape(0, 1), (10 + alus - 1) / alus);
        }
        for (int ports = 1; ports <= 2; ports++) {
            BundleMill mill = lay(machine(1, ports, 1, 1, 1, 1), halt());
            for (int k = 0; k < 9; k++) {
                operate(mill, load(k, 11, 0));
            }
            mill.compile();
            CHECKS.same("nine by " + ports + " PORTS", mill.shape(0, 1), (9 + ports - 1) / ports);
        }
    }

    private static void forOneCycle() {
        BundleMill mill = halting(machine(1, 1, 8, 8, 8, 8), div(1, 2, 3), mul(4, 2, 3),
                set(5, 0), load(6, 2, 0), load(7, 2, 0));
        int[] cycles = {0, 1, 2, 0, 1};
        for (int k = 0; k < cycles.length; k++) {
            CHECKS.same("cycle of " + k, mill.place(0, k, 3), cycles[k]);
        }
        BundleMill loop = looping(machine(1, 1, 1, 1, 8, 8), div(1, 2, 3), load(6, 2, 0));
        CHECKS.same("II", loop.shape(0, 3), 1);
    }

    private static int height(BundleMill mill, int code) {
        return halting(mill, op(code, 1, 2, 3, 0, 0)).place(0, 0, 2);
    }

    private static void ownLatencies() {
        for (int latency = 1; latency <= 8; latency++) {
            int other = latency % 8 + 1;
            CHECKS.same("MUL", height(machine(1, 1, other, latency, other, other), 4), latency);
            CHECKS.same("DIV", height(machine(1, 1, other, other, latency, other), 6), latency);
            CHECKS.same("LOAD", height(machine(1, 1, other, other, other, latency), 7), latency);
        }
    }

    private static void storeAndOut() {
        for (int code = 8; code < 10; code++) {
            CHECKS.same("code " + code, height(machine(4, 2, 8, 8, 8, 8), code), 1);
            CHECKS.same("code " + code, height(machine(1, 1, 1, 1, 1, 1), code), 1);
        }
    }

    private static void plainOnes() {
        for (int code : new int[] {0, 1, 2, 3, 5}) {
            for (int latency = 1; latency <= 8; latency++) {
                int other = latency % 8 + 1;
                CHECKS.same("code " + code, height(machine(1, 1, latency, other, other, other),
                        code), latency);
            }
        }
    }

    private static void readsInItsCycle() {
        BundleMill mill = halting(machine(4, 2, 1, 1, 1, 1), out(1), set(1, 5), step(2, 1, 0));
        CHECKS.same("written beside who reads", mill.place(0, 1, 3), 0);
        mill.run();
        CHECKS.same("what was there is put out", mill.output(0), 0);
        CHECKS.same("who reads behind has it", mill.variable(2), 5);
    }

    private static void isThereFrom() {
        for (int latency = 1; latency <= 8; latency++) {
            BundleMill mill = halting(machine(4, 2, latency, 1, 1, 1), set(1, 5), out(1));
            CHECKS.same("who reads", mill.place(0, 1, 3), latency);
            CHECKS.same("cycles", mill.run(), latency + 2);
            CHECKS.same("it has it", mill.output(0), 5);
        }
    }

    /** The product of the time before is read while the next seven are on their way. */
    private static void readsBefore() {
        BundleMill mill = counted(machine(4, 2, 1, 8, 1, 1), 6, step(1, 1, 1), out(2),
                mul(2, 1, 1));
        CHECKS.same("II", mill.shape(1, 3), 1);
        CHECKS.same("MUL's cycle", mill.place(1, 2, 4), 1);
        CHECKS.same("OUT's cycle", mill.place(1, 1, 4), 8);
        mill.run();
        for (int i = 0; i < 6; i++) {
            CHECKS.same("output " + i, mill.output(i), i * i);
        }
        BundleMill late = counted(machine(4, 2, 1, 8, 1, 1), 6, step(1, 1, 1), mul(2, 1, 1),
                out(2));
        CHECKS.same("II", late.shape(1, 3), 1);
        CHECKS.same("STAGES", late.shape(1, 4), 10);
        late.run();
        for (int i = 0; i < 6; i++) {
            CHECKS.same("output " + i, late.output(i), (i + 1) * (i + 1));
        }
    }

    private static void putsOutInItsCycle() {
        BundleMill mill = halting(machine(4, 2, 1, 1, 1, 1), out(1), div(2, 1, 3));
        CHECKS.same("DIV's cycle", mill.place(0, 1, 3), 1);
        CHECKS.same("cycles", mill.run(), 2);
        CHECKS.same("put out ahead of the trap", mill.result(0), 1);
        BundleMill behind = halting(machine(4, 2, 1, 1, 1, 1), div(2, 1, 3), out(1));
        CHECKS.same("OUT's cycle", behind.place(0, 1, 3), 1);
        CHECKS.same("cycles", behind.run(), 1);
        CHECKS.same("not behind the trap", behind.result(0), 0);
    }
}
