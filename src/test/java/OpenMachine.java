import java.util.ArrayList;
import java.util.List;

/**
 * A machine without interlocks that runs the very bundles that a BundleMill answers: what is
 * written stands in the pipeline until its latency is over, and who reads before has what was there.
 */
final class OpenMachine {
    /** What is on its way to a variable or to a cell. */
    private record Write(long cycle, boolean cell, int where, int value) {
    }

    private final BundleMill mill;
    private final Model model;
    final int[] memory;
    final int[] variables = new int[12];
    final List<Integer> outputs = new ArrayList<>();
    final List<Write> under = new ArrayList<>();
    boolean trapped = false;
    boolean late = false;
    long cycle = 0;

    /** The model has compiled the same program, and tells what the operations are. */
    OpenMachine(BundleMill mill, Model model, int[] memory) {
        this.mill = mill;
        this.model = model;
        this.memory = memory.clone();
    }

    /** The cycles that the run took. */
    long go() {
        int x = 0;
        for (int come = 0; come < 1000; come++) {
            Model.Part part = model.parts.get(x);
            goThrough(part, x);
            if (trapped) {
                return cycle;
            }
            land();
            late = late || !under.isEmpty();
            cycle++;
            if (part.end == 0) {
                return cycle;
            }
            x = part.end == 2 && variables[part.v] == 0 ? part.f : part.t;
        }
        return -1;
    }

    private void goThrough(Model.Part part, int x) {
        int times = part.end == 3 ? variables[part.v] : 1;
        int ii = mill.shape(x, 3);
        if (ii == 0) {
            for (int time = 0; time < times && !trapped; time++) {
                rows(part, x, mill.shape(x, 1), false, 0, 1);
            }
            return;
        }
        if (times < 1) {
            return;
        }
        int stages = mill.shape(x, 4);
        long start = cycle;
        for (int pass = 0; pass < times + stages - 1 && !trapped; pass++) {
            rows(part, x, ii, true, pass, times);
        }
        long end = start + (long) (times - 1) * ii;
        for (int k = 0; k < part.ops.size(); k++) {
            end = Math.max(end, start + (long) (times - 1) * ii + mill.place(x, k, 4)
                    + latency(part.ops.get(k)));
        }
        while (!trapped && cycle < end) {
            land();
            cycle++;
        }
    }

    private void rows(Model.Part part, int x, int count, boolean modulo, int pass, int times) {
        for (int row = 0; row < count && !trapped; row++) {
            land();
            long bits = mill.bundle(x, row, modulo);
            List<Write> fresh = new ArrayList<>();
            for (int slot = 0; slot < 6; slot++) {
                int entry = (int) (bits >> (8 * slot)) & 255;
                int time = pass - entry / 16;
                if (entry != 0 && time >= 0 && time < times) {
                    issue(part.ops.get(entry % 16 - 1), fresh);
                }
            }
            under.addAll(fresh);
            cycle++;
        }
        if (trapped) {
            under.forEach(this::landCell);
        }
    }

    private void land() {
        for (Write write : under) {
            if (write.cycle() <= cycle) {
                (write.cell() ? memory : variables)[write.where()] = write.value();
            }
        }
        under.removeIf(write -> write.cycle() <= cycle);
    }

    private void landCell(Write write) {
        if (write.cell()) {
            memory[write.where()] = write.value();
        }
    }

    private void issue(Model.Op op, List<Write> fresh) {
        if (op.guard() > 0 && variables[op.guard() - 1] == 0
                || op.guard() < 0 && variables[-1 - op.guard()] != 0) {
            return;
        }
        int a = variables[op.a()];
        int b = variables[op.b()];
        int address = a + op.n() & 63;
        if (op.code() == 9) {
            outputs.add(a);
        } else if (op.code() == 8) {
            fresh.add(new Write(cycle + 1, true, address, b));
        } else if (op.code() == 6 && b == 0) {
            trapped = true;
        } else {
            fresh.add(new Write(cycle + latency(op), false, op.d(),
                    Model.value(op, a, b, memory[address])));
        }
    }

    private int latency(Model.Op op) {
        int[] sizes = model.machine;
        switch (op.code()) {
            case 4:
                return sizes[3];
            case 6:
                return sizes[4];
            case 7:
                return sizes[5];
            case 8:
            case 9:
                return 1;
            default:
                return sizes[2];
        }
    }
}
