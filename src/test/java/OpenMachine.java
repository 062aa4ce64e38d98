import java.util.ArrayList;
import java.util.HashMap;
import java.util.List;
import java.util.Map;

/**
 * A machine without interlocks that runs the very bundles that a BundleMill answers: what is
 * written stands in the pipeline until its latency is over; who reads before has what was there.
 */
final class OpenMachine {
    /** What is on its way to a variable or to a cell. */
    private record Write(long cycle, boolean cell, int where, int value) {
    }

    /** A block's schedule: its rows, and what THE MACHINE asks of it. */
    private record Rows(long[] bundles, int ii, int stages, int end) {
    }

    private final Model model;
    private final Map<Integer, Rows> blocks = new HashMap<>();
    final int[] memory;
    final int[] variables = new int[12];
    final List<Integer> outputs = new ArrayList<>();
    final List<Write> under = new ArrayList<>();
    boolean trapped = false;
    boolean late = false;
    long cycle = 0;

    /** The model has compiled the same program, and tells what the operations are. */
    OpenMachine(Model model, int[] memory) {
        this.model = model;
        this.memory = memory.clone();
    }

    /** Reads the bundles of a block that is not gone. */
    void read(BundleMill mill, int x) {
        int ii = mill.shape(x, 3);
        long[] bundles = new long[ii > 0 ? ii : mill.shape(x, 1)];
        for (int row = 0; row < bundles.length; row++) {
            bundles[row] = mill.bundle(x, row, ii > 0);
        }
        int end = 0;
        List<Model.Op> ops = model.parts.get(x).ops;
        for (int k = 0; k < ops.size() && ii > 0; k++) {
            end = Math.max(end, mill.place(x, k, 4) + model.latency(ops.get(k)));
        }
        blocks.put(x, new Rows(bundles, ii, mill.shape(x, 4), end));
    }

    /** The cycles that the run took. */
    long go() {
        int x = 0;
        for (int come = 0; come < 1000; come++) {
            Model.Part part = model.parts.get(x);
            goThrough(part, x);
            if (trapped) {
                return cycle;
            }
            land();
            late = late || !under.isEmpty();
            cycle++;
            if (part.end == 0) {
                return cycle;
            }
            x = part.end == 2 && variables[part.v] == 0 ? part.f : part.t;
        }
        return -1;
    }

    private void goThrough(Model.Part part, int x) {
        Rows rows = blocks.get(x);
        int times = part.end == 3 ? variables[part.v] : 1;
        if (rows.ii() == 0) {
            for (int time = 0; time < times && !trapped; time++) {
                pass(part, rows.bundles(), 0, 1);
            }
            return;
        }
        if (times < 1) {
            return;
        }
        long end = cycle + (long) (times - 1) * rows.ii() + rows.end();
        for (int pass = 0; pass < times + rows.stages() - 1 && !trapped; pass++) {
            pass(part, rows.bundles(), pass, times);
        }
        while (!trapped && cycle < end) {
            land();
            cycle++;
        }
    }

    private void pass(Model.Part part, long[] bundles, int pass, int times) {
        for (int row = 0; row < bundles.length && !trapped; row++) {
            land();
            long bits = bundles[row];
            List<Write> fresh = new ArrayList<>();
            for (int slot = 0; slot < 6; slot++) {
                int entry = (int) (bits >> (8 * slot)) & 255;
                int time = pass - entry / 16;
                if (entry != 0 && time >= 0 && time < times) {
                    issue(part.ops.get(entry % 16 - 1), fresh);
                }
            }
            under.addAll(fresh);
            cycle++;
        }
        if (trapped) {
            under.forEach(this::landCell);
        }
    }

    private void land() {
        for (Write write : under) {
            if (write.cycle() <= cycle) {
                (write.cell() ? memory : variables)[write.where()] = write.value();
            }
        }
        under.removeIf(write -> write.cycle() <= cycle);
    }

    private void landCell(Write write) {
        if (write.cell()) {
            memory[write.where()] = write.value();
        }
    }

    private void issue(Model.Op op, List<Write> fresh) {
        if (op.guard() > 0 && variables[op.guard() - 1] == 0
                || op.guard() < 0 && variables[-1 - op.guard()] != 0) {
            return;
        }
        int a = variables[op.a()];
        int b = variables[op.b()];
        int address = a + op.n() & 63;
        if (op.code() == 9) {
            outputs.add(a);
        } else if (op.code() == 8) {
            fresh.add(new Write(cycle + 1, true, address, b));
        } else if (op.code() == 6 && b == 0) {
            trapped = true;
        } else {
            fresh.add(new Write(cycle + model.latency(op), false, op.d(),
                    Model.value(op, a, b, memory[address])));
        }
    }
}
