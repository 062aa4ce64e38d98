/** Terms, A LIST SCHEDULE. */
public final class ListTest extends Written {
    private static final Checks CHECKS = new Checks("ListTest");

    public static void main(String[] args) {
        CHECKS.sentence("for each block that is not gone", ListTest::eachBlock);
        CHECKS.sentence("HEIGHT of i: the greatest of its latency", ListTest::ownLatency);
        CHECKS.sentence("and, for its edges of distance 0, delay + height of j",
                ListTest::heights);
        CHECKS.sentence("Cycle by cycle, from 0", ListTest::fromZero);
        CHECKS.sentence("to which edges of distance 0 come only from scheduled ones",
                ListTest::scheduledOnes);
        CHECKS.sentence("with their cycle + delay not above this cycle", ListTest::notAbove);
        CHECKS.sentence("for which a unit is free in this cycle", ListTest::freeUnit);
        CHECKS.sentence("the highest one", ListTest::highest);
        CHECKS.sentence("of these the one of the lowest number", ListTest::lowestNumber);
        CHECKS.sentence("until there is none", ListTest::untilNone);
        CHECKS.sentence("Its LENGTH L: the greatest of cycle + latency", ListTest::length);
        CHECKS.sentence("0 without operations", ListTest::noOperations);
        CHECKS.end();
    }

    private static void cycles(String what, BundleMill mill, int... due) {
        for (int k = 0; k < due.length; k++) {
            CHECKS.same(what + ": cycle of " + k, mill.place(0, k, 3), due[k]);
        }
    }

    private static void heightsOf(String what, BundleMill mill, int... due) {
        for (int k = 0; k < due.length; k++) {
            CHECKS.same(what + ": height of " + k, mill.place(0, k, 2), due[k]);
        }
    }

    private static void eachBlock() {
        BundleMill mill = new BundleMill();
        for (int[] end : new int[][] {jump(1), branch(0, 2, 2), loop(0, 3), branch(0, 4, 5),
            jump(5), halt()}) {
            lay(mill, end, mul(1, 2, 2), out(1));
        }
        mill.compile();
        for (int x : new int[] {0, 1, 2, 5}) {
            CHECKS.same("L of " + x, mill.shape(x, 1), 4);
            CHECKS.same("cycle in " + x, mill.place(x, 1, 3), 3);
        }
        CHECKS.same("L of what got guards", mill.shape(3, 1), 7);
        CHECKS.refuses(Checks.ELEMENT, "the one that is gone", () -> mill.shape(4, 1));
    }

    private static void ownLatency() {
        heightsOf("no edges", halting(machine(1, 1, 2, 3, 5, 7), set(1, 0), mul(2, 11, 11),
                div(3, 11, 11), load(4, 11, 0), store(10, 0, 11)), 2, 3, 5, 7, 1);
        heightsOf("an edge that asks for less", halting(machine(1, 1, 8, 8, 8, 8), div(1, 2, 3),
                out(4)), 8, 1);
        heightsOf("a delay below 0", halting(machine(1, 1, 8, 8, 8, 8), out(1), set(1, 0)), 1, 8);
    }

    private static void heights() {
        heightsOf("one behind the other", halting(new BundleMill(), mul(1, 11, 11),
                step(2, 1, 0), load(3, 2, 0), out(3)), 7, 4, 3, 1);
        heightsOf("the greatest", halting(new BundleMill(), set(1, 0), step(2, 1, 0),
                mul(3, 1, 1), out(1), div(4, 3, 3)), 1 + 3 + 8, 1, 3 + 8, 1 + 8, 8);
        BundleMill behind = looping(new BundleMill(), step(2, 1, 0), mul(1, 5, 5));
        BundleMill own = looping(new BundleMill(), mul(1, 1, 1));
        for (int time = 0; time < 3; time++) {
            heightsOf("not those of distance 1", behind, 1 - 3 + 3, 3);
            heightsOf("nor its own", own, 3);
            behind.compile();
            own.compile();
        }
        heightsOf("a delay below 0", halting(machine(2, 1, 1, 3, 8, 2), out(1), mul(1, 11, 11),
                div(2, 1, 1)), 1 - 3 + 11, 3 + 8, 8);
    }

    private static void fromZero() {
        cycles("alone", halting(machine(1, 1, 8, 8, 8, 8), set(1, 0)), 0);
        cycles("three", halting(machine(1, 1, 1, 1, 1, 1), set(1, 0), out(11), load(2, 11, 0)),
                0, 0, 1);
        cycles("three of the same height", halting(machine(1, 1, 1, 1, 1, 1), set(1, 0), out(11),
                store(10, 0, 11)), 0, 0, 1);
    }

    /** The SET may stand far ahead of the OUT, but waits until this has its cycle. */
    private static void scheduledOnes() {
        for (int latency = 1; latency <= 8; latency++) {
            BundleMill mill = halting(machine(4, 2, latency, 3, 8, 2), mul(5, 11, 11),
                    guarded(6, out(1)), set(1, 0));
            cycles("latency " + latency, mill, 0, 3, 3);
        }
        cycles("both come", halting(machine(4, 2, 1, 3, 8, 2), mul(1, 11, 11), load(2, 11, 0),
                add(3, 1, 2), out(3)), 0, 0, 3, 4);
    }

    private static void notAbove() {
        for (int latency = 1; latency <= 8; latency++) {
            cycles("latency " + latency, halting(machine(4, 2, 1, 1, 1, latency), load(1, 11, 0),
                    step(2, 1, 0), out(2)), 0, latency, latency + 1);
        }
        cycles("0 is not above", halting(machine(4, 2, 1, 3, 8, 2), out(1), set(1, 0)), 0, 0);
        cycles("the later of two", halting(machine(4, 2, 1, 3, 8, 2), load(1, 11, 0),
                mul(2, 11, 11), add(3, 2, 1)), 0, 0, 3);
    }

    private static void freeUnit() {
        int[][] ops = {set(1, 0), set(2, 0), set(3, 0), set(4, 0), set(5, 0), load(6, 11, 0),
            load(7, 11, 0), load(8, 11, 0)};
        cycles("one of each", halting(machine(1, 1, 1, 1, 1, 1), ops), 0, 1, 2, 3, 4, 0, 1, 2);
        cycles("two ALUs", halting(machine(2, 1, 1, 1, 1, 1), ops), 0, 0, 1, 1, 2, 0, 1, 2);
        cycles("three ALUs", halting(machine(3, 2, 1, 1, 1, 1), ops), 0, 0, 0, 1, 1, 0, 0, 1);
        cycles("four ALUs", halting(machine(4, 2, 1, 1, 1, 1), ops), 0, 0, 0, 0, 1, 0, 0, 1);
    }

    private static void highest() {
        cycles("the last one first", halting(machine(1, 1, 1, 2, 8, 2), set(1, 0), mul(2, 11, 11),
                div(3, 11, 11)), 2, 1, 0);
        cycles("by what comes behind", halting(machine(1, 1, 1, 3, 8, 2), set(1, 0),
                mul(2, 11, 11), set(3, 0), set(4, 0), step(5, 4, 0), mul(6, 5, 5)),
                4, 2, 5, 0, 1, 3);
        cycles("with a PORT", halting(machine(1, 1, 1, 3, 8, 2), store(10, 0, 11),
                load(1, 10, 1), out(1)), 1, 0, 2);
        cycles("ready ones alone", halting(machine(1, 1, 1, 3, 8, 2), load(1, 11, 0),
                div(2, 1, 1), set(3, 0), set(4, 0), set(5, 0)), 0, 2, 0, 1, 3);
    }

    private static void lowestNumber() {
        cycles("ten", halting(machine(1, 1, 1, 1, 1, 1), set(0, 0), set(1, 0), set(2, 0),
                set(3, 0), set(4, 0), set(5, 0), set(6, 0), set(7, 0), set(8, 0), set(9, 0)),
                0, 1, 2, 3, 4, 5, 6, 7, 8, 9);
        cycles("by three", halting(machine(3, 1, 1, 1, 1, 1), set(0, 0), set(1, 0), set(2, 0),
                set(3, 0), mul(4, 11, 11), set(5, 0)), 0, 0, 0, 1, 1, 1);
        cycles("the highest ahead of it", halting(machine(1, 1, 1, 3, 1, 1), set(0, 0), set(1, 0),
                mul(2, 11, 11), mul(3, 11, 11)), 2, 3, 0, 1);
    }

    /** One that has its cycle may let another one go in the same cycle. */
    private static void untilNone() {
        cycles("written beside", halting(machine(3, 1, 1, 1, 1, 1), step(2, 1, 0), step(1, 3, 0),
                set(3, 0)), 0, 0, 0);
        cycles("stored beside", halting(machine(1, 2, 1, 1, 1, 1), load(2, 1, 0), store(1, 0, 3)),
                0, 0);
        cycles("of the other sort", halting(machine(1, 1, 1, 3, 8, 1), mul(1, 11, 11),
                mul(2, 11, 11), load(3, 11, 0)), 0, 1, 0);
        cycles("a hole is filled", halting(machine(2, 1, 1, 3, 8, 2), mul(1, 11, 11),
                step(2, 1, 0), set(3, 0), set(4, 0)), 0, 3, 0, 1);
        cycles("an empty cycle is passed", halting(machine(1, 1, 1, 8, 8, 8), mul(1, 11, 11),
                mul(2, 1, 1), load(3, 2, 0), out(3)), 0, 8, 16, 24);
    }

    private static int length(BundleMill mill) {
        return mill.shape(0, 1);
    }

    private static void length() {
        CHECKS.same("the last one", length(halting(machine(1, 1, 1, 3, 8, 2), set(1, 0),
                step(2, 1, 0))), 2);
        CHECKS.same("one ahead of the last one", length(halting(machine(1, 1, 1, 3, 8, 2),
                div(1, 11, 11), set(2, 0))), 8);
        CHECKS.same("the longest", length(halting(machine(1, 1, 8, 8, 8, 8),
                times(10, mul(1, 1, 1)))), 80);
        CHECKS.same("a STORE", length(halting(new BundleMill(), store(1, 0, 2))), 1);
        CHECKS.same("a LOOP's", length(looping(new BundleMill(), mul(1, 11, 11))), 3);
    }

    private static void noOperations() {
        BundleMill mill = compiled(lay(lay(new BundleMill(), loop(0, 1)), halt()));
        CHECKS.same("a LOOP", mill.shape(0, 1), 0);
        CHECKS.same("a HALT", mill.shape(1, 1), 0);
        CHECKS.refuses(Checks.INDEX, "no row", () -> mill.bundle(0, 0, false));
        CHECKS.same("one cycle each", mill.run(), 2);
    }
}
