import java.util.ArrayList;
import java.util.Arrays;
import java.util.Collections;
import java.util.HashSet;
import java.util.List;
import java.util.NoSuchElementException;
import java.util.Set;

/**
 * The document told a second time, as slowly and plainly as can be, with the Java library: what the
 * program answers is compared with it.
 */
final class Model {
    /** An operation. */
    record Op(int code, int d, int a, int b, int n, int guard) {
        Set<Integer> writes() {
            return code <= 7 ? Set.of(d) : Set.of();
        }

        Set<Integer> reads() {
            Set<Integer> all = new HashSet<>();
            if (List.of(1, 2, 3, 4, 5, 6, 7, 8, 9).contains(code)) {
                all.add(a);
            }
            if (List.of(2, 3, 4, 5, 6, 8).contains(code)) {
                all.add(b);
            }
            if (guard > 0) {
                all.add(guard - 1);
            }
            if (guard < 0) {
                all.add(-1 - guard);
            }
            return all;
        }

        boolean port() {
            return code == 7 || code == 8 || code == 9;
        }

        Op with(int newGuard) {
            return new Op(code, d, a, b, n, newGuard);
        }
    }

    /** An edge. */
    record Edge(int i, int j, int delay, int distance) {
    }

    /** A block, and how it is scheduled. */
    static final class Part {
        int end;
        int v;
        int t;
        int f;
        boolean gone = false;
        List<Op> ops = new ArrayList<>();
        List<Edge> edges = new ArrayList<>();
        int[] height;
        int[] list;
        int[] modulo;
        int length = 0;
        int mii = 0;
        int ii = 0;
        int stages = 0;

        Part(int end, int v, int t, int f) {
            this.end = end;
            this.v = v;
            this.t = t;
            this.f = f;
        }

        Part copy() {
            Part other = new Part(end, v, t, f);
            other.ops.addAll(ops);
            return other;
        }

        List<Integer> next() {
            switch (end) {
                case 0:
                    return List.of();
                case 2:
                    return List.of(t, f);
                default:
                    return List.of(t);
            }
        }

        int rows() {
            return ii > 0 ? ii : length;
        }
    }

    int[] machine = {2, 1, 1, 3, 8, 2};
    List<Part> given = new ArrayList<>();
    List<Part> parts = null;
    int[] memory = new int[64];
    int[] variables = new int[12];
    List<Integer> outputs = new ArrayList<>();
    boolean trapped = false;
    int turns = 0;

    void machine(int... sizes) {
        int[] most = {4, 2, 8, 8, 8, 8};
        for (int k = 0; k < 6; k++) {
            if (sizes[k] < 1 || sizes[k] > most[k]) {
                throw new IllegalArgumentException();
            }
        }
        machine = sizes;
        parts = null;
    }

    int block(int end, int v, int t, int f) {
        if (end < 0 || end > 3 || v < 0 || v > 11 || t < 0 || t > 5 || f < 0 || f > 5) {
            throw new IllegalArgumentException();
        }
        if (given.size() == 6) {
            throw new IllegalStateException();
        }
        given.add(new Part(end, v, t, f));
        parts = null;
        return given.size() - 1;
    }

    int operation(int code, int d, int a, int b, int n, int guard) {
        if (code < 0 || code > 9 || d < 0 || d > 11 || a < 0 || a > 11 || b < 0 || b > 11
                || guard < -12 || guard > 12) {
            throw new IllegalArgumentException();
        }
        if (given.isEmpty() || given.get(given.size() - 1).ops.size() == 10) {
            throw new IllegalStateException();
        }
        List<Op> ops = given.get(given.size() - 1).ops;
        ops.add(new Op(code, d, a, b, n, guard));
        parts = null;
        return ops.size() - 1;
    }

    void erase() {
        given.clear();
        parts = null;
    }

    void poke(int address, int value) {
        memory[Math.floorMod(address, 64)] = value;
    }

    int peek(int address) {
        return memory[Math.floorMod(address, 64)];
    }

    int compile() {
        if (given.isEmpty()) {
            throw new IllegalStateException();
        }
        for (Part part : given) {
            for (int next : part.next()) {
                if (next >= given.size()) {
                    throw new IndexOutOfBoundsException();
                }
            }
        }
        for (Part part : given) {
            if (part.end == 3 && part.ops.stream().anyMatch(op -> op.writes().contains(part.v))) {
                throw new IllegalArgumentException();
            }
        }
        List<Part> fresh = new ArrayList<>();
        for (Part part : given) {
            fresh.add(part.copy());
        }
        for (int x = 0; x < fresh.size(); x++) {
            guard(fresh, x);
        }
        int bundles = 0;
        for (Part part : fresh) {
            if (!part.gone) {
                schedule(part);
                bundles += part.rows();
            }
        }
        parts = fresh;
        return bundles;
    }

    private static void guard(List<Part> all, int x) {
        Part head = all.get(x);
        if (head.gone || head.end != 2 || head.t == head.f) {
            return;
        }
        Part t = all.get(head.t);
        Part f = all.get(head.f);
        List<Integer> taken = null;
        int z = 0;
        if (t.end == 1 && f.end == 1 && t.t == f.t && fits(all, x, List.of(head.t, head.f))) {
            taken = List.of(head.t, head.f);
            z = t.t;
        } else if (t.end == 1 && t.t == head.f && fits(all, x, List.of(head.t))) {
            taken = List.of(head.t);
            z = head.f;
        } else if (f.end == 1 && f.t == head.t && fits(all, x, List.of(head.f))) {
            taken = List.of(head.f);
            z = head.t;
        }
        if (taken == null) {
            return;
        }
        for (int y : taken) {
            for (Op op : all.get(y).ops) {
                head.ops.add(op.with(y == head.t ? 1 + head.v : -1 - head.v));
            }
            all.get(y).gone = true;
        }
        head.end = 1;
        head.t = z;
    }

    private static boolean fits(List<Part> all, int x, List<Integer> taken) {
        int sum = all.get(x).ops.size();
        for (int y : taken) {
            sum += all.get(y).ops.size();
            if (y == 0 || y == x) {
                return false;
            }
            for (int other = 0; other < all.size(); other++) {
                Part part = all.get(other);
                if (other != x && !part.gone && part.next().contains(y)) {
                    return false;
                }
            }
            for (Op op : all.get(y).ops) {
                if (op.guard() != 0 || op.writes().contains(all.get(x).v)) {
                    return false;
                }
            }
        }
        return sum <= 10;
    }

    int latency(Op op) {
        switch (op.code()) {
            case 4:
                return machine[3];
            case 6:
                return machine[4];
            case 7:
                return machine[5];
            case 8:
            case 9:
                return 1;
            default:
                return machine[2];
        }
    }

    private void schedule(Part part) {
        int count = part.ops.size();
        for (int i = 0; i < count; i++) {
            for (int j = 0; j < count; j++) {
                if (i < j) {
                    addEdges(part, i, j, 0);
                } else if (part.end == 3) {
                    addEdges(part, i, j, 1);
                }
            }
        }
        listSchedule(part);
        part.modulo = new int[count];
        Arrays.fill(part.modulo, -1);
        if (part.end == 3 && count > 0) {
            part.mii = mii(part);
            for (int ii = part.mii; ii <= part.length && part.ii == 0; ii++) {
                int[] cycles = attempt(part, ii);
                if (cycles != null) {
                    part.ii = ii;
                    part.modulo = cycles;
                    part.stages = Arrays.stream(cycles).max().getAsInt() / ii + 1;
                }
            }
        }
    }

    private void addEdges(Part part, int i, int j, int distance) {
        Op one = part.ops.get(i);
        Op two = part.ops.get(j);
        if (!Collections.disjoint(one.writes(), two.reads())) {
            part.edges.add(new Edge(i, j, latency(one), distance));
        }
        if (!Collections.disjoint(one.reads(), two.writes())) {
            part.edges.add(new Edge(i, j, 1 - latency(two), distance));
        }
        if (!Collections.disjoint(one.writes(), two.writes())) {
            part.edges.add(new Edge(i, j, latency(one) - latency(two) + 1, distance));
        }
        Set<Integer> codes = Set.of(6, 8, 9);
        boolean outs = one.code() == 9 && two.code() == 9;
        boolean traps = one.code() == 6 && codes.contains(two.code())
                || two.code() == 6 && codes.contains(one.code());
        if (outs || traps) {
            part.edges.add(new Edge(i, j, 1, distance));
        }
        boolean memories = Set.of(7, 8).contains(one.code()) && Set.of(7, 8).contains(two.code());
        if (memories && one.code() + two.code() > 14) {
            int k = meet(part, i, j, distance);
            if (k >= 0) {
                part.edges.add(new Edge(i, j, one.code() == 8 ? 1 : 0, k));
            }
        }
    }

    private static int meet(Part part, int i, int j, int distance) {
        int a = part.ops.get(i).a();
        List<Integer> writers = new ArrayList<>();
        for (int k = 0; k < part.ops.size(); k++) {
            if (part.ops.get(k).writes().contains(a)) {
                writers.add(k);
            }
        }
        boolean stepped = writers.size() == 1 && part.ops.get(writers.get(0)).code() == 1
                && part.ops.get(writers.get(0)).a() == a
                && part.ops.get(writers.get(0)).guard() == 0;
        if (a != part.ops.get(j).a() || !writers.isEmpty() && !stepped) {
            return distance;
        }
        long amount = stepped ? part.ops.get(writers.get(0)).n() : 0;
        long first = part.ops.get(i).n() + (stepped && writers.get(0) < i ? amount : 0);
        long second = part.ops.get(j).n() + (stepped && writers.get(0) < j ? amount : 0);
        for (int k = distance; k <= 64; k++) {
            if ((first - second - k * amount) % 64 == 0) {
                return k == 0 || part.end == 3 ? k : -1;
            }
        }
        return -1;
    }

    private void listSchedule(Part part) {
        int count = part.ops.size();
        part.height = new int[count];
        part.list = new int[count];
        Arrays.fill(part.list, -1);
        for (int i = count - 1; i >= 0; i--) {
            part.height[i] = latency(part.ops.get(i));
            for (Edge edge : part.edges) {
                if (edge.i() == i && edge.distance() == 0) {
                    part.height[i] = Math.max(part.height[i], edge.delay() + part.height[edge.j()]);
                }
            }
        }
        for (int cycle = 0; Arrays.stream(part.list).anyMatch(c -> c < 0); cycle++) {
            while (true) {
                int best = -1;
                for (int k = 0; k < count; k++) {
                    if (part.list[k] < 0 && ready(part, k, cycle)
                            && (best < 0 || part.height[k] > part.height[best])) {
                        best = k;
                    }
                }
                if (best < 0) {
                    break;
                }
                part.list[best] = cycle;
            }
        }
        for (int k = 0; k < count; k++) {
            part.length = Math.max(part.length, part.list[k] + latency(part.ops.get(k)));
        }
    }

    private boolean ready(Part part, int k, int cycle) {
        boolean port = part.ops.get(k).port();
        int used = 0;
        for (int other = 0; other < part.list.length; other++) {
            if (part.list[other] == cycle && part.ops.get(other).port() == port) {
                used++;
            }
        }
        if (used >= machine[port ? 1 : 0]) {
            return false;
        }
        for (Edge edge : part.edges) {
            if (edge.j() == k && edge.distance() == 0
                    && (part.list[edge.i()] < 0 || part.list[edge.i()] + edge.delay() > cycle)) {
                return false;
            }
        }
        return true;
    }

    private int mii(Part part) {
        int ports = (int) part.ops.stream().filter(Op::port).count();
        int alus = part.ops.size() - ports;
        int ii = Math.max(1, Math.max(-Math.floorDiv(-alus, machine[0]),
                -Math.floorDiv(-ports, machine[1])));
        while (!closes(part, ii)) {
            ii++;
        }
        return ii;
    }

    private static long[][] ways(Part part, int ii) {
        int count = part.ops.size();
        long[][] far = new long[count][count];
        for (long[] row : far) {
            Arrays.fill(row, Long.MIN_VALUE / 4);
        }
        for (Edge edge : part.edges) {
            far[edge.i()][edge.j()] = Math.max(far[edge.i()][edge.j()],
                    edge.delay() - (long) ii * edge.distance());
        }
        for (int k = 0; k < count; k++) {
            for (int i = 0; i < count; i++) {
                for (int j = 0; j < count; j++) {
                    long over = Math.max(Long.MIN_VALUE / 4, far[i][k] + far[k][j]);
                    far[i][j] = Math.max(far[i][j], over);
                }
            }
        }
        return far;
    }

    private static boolean closes(Part part, int ii) {
        long[][] far = ways(part, ii);
        for (int k = 0; k < far.length; k++) {
            if (far[k][k] > 0) {
                return false;
            }
        }
        return true;
    }

    /** The cycles of a TRY that goes, or null. */
    private int[] attempt(Part part, int ii) {
        int count = part.ops.size();
        long[] priority = new long[count];
        long[][] far = ways(part, ii);
        for (int i = 0; i < count; i++) {
            for (int j = 0; j < count; j++) {
                priority[i] = Math.max(priority[i], far[i][j]);
            }
        }
        int[] cycle = new int[count];
        int[] last = new int[count];
        Arrays.fill(cycle, -1);
        Arrays.fill(last, -1);
        for (int step = 1; step <= 6 * count; step++) {
            int k = -1;
            for (int other = 0; other < count; other++) {
                if (cycle[other] < 0 && (k < 0 || priority[other] > priority[k])) {
                    k = other;
                }
            }
            if (k < 0) {
                break;
            }
            attemptStep(part, ii, priority, cycle, last, k);
        }
        for (int k = 0; k < count; k++) {
            if (cycle[k] < 0 || cycle[k] / ii > 15) {
                return null;
            }
        }
        return cycle;
    }

    private void attemptStep(Part part, int ii, long[] priority, int[] cycle, int[] last, int k) {
        int early = 0;
        for (Edge edge : part.edges) {
            if (edge.j() == k && cycle[edge.i()] >= 0) {
                early = Math.max(early, cycle[edge.i()] + edge.delay() - ii * edge.distance());
            }
        }
        int units = machine[part.ops.get(k).port() ? 1 : 0];
        int got = -1;
        for (int c = early; c <= early + ii - 1 && got < 0; c++) {
            if (inRow(part, cycle, k, c % ii, ii).size() < units) {
                got = c;
            }
        }
        if (got < 0) {
            got = last[k] < 0 || early > last[k] ? early : last[k] + 1;
            int loser = -1;
            for (int other : inRow(part, cycle, k, got % ii, ii)) {
                if (loser < 0 || priority[other] <= priority[loser]) {
                    loser = other;
                }
            }
            cycle[loser] = -1;
        }
        cycle[k] = got;
        last[k] = got;
        for (Edge edge : part.edges) {
            int j = edge.j();
            if (edge.i() == k && j != k && cycle[j] >= 0
                    && got + edge.delay() - ii * edge.distance() > cycle[j]) {
                cycle[j] = -1;
            }
        }
    }

    private static List<Integer> inRow(Part part, int[] cycle, int k, int row, int ii) {
        List<Integer> all = new ArrayList<>();
        for (int other = 0; other < cycle.length; other++) {
            if (cycle[other] >= 0 && cycle[other] % ii == row
                    && part.ops.get(other).port() == part.ops.get(k).port()) {
                all.add(other);
            }
        }
        return all;
    }

    int run() {
        if (parts == null) {
            throw new IllegalStateException();
        }
        int[] cells = memory.clone();
        int[] vars = new int[12];
        List<Integer> outs = new ArrayList<>();
        int made = 0;
        long cycles = 0;
        boolean trap = false;
        int x = 0;
        while (true) {
            Part part = parts.get(x);
            long times = part.end == 3 ? Math.max(0, vars[part.v]) : 1;
            if (made + Math.max(1, times) > 100) {
                throw new UnsupportedOperationException();
            }
            made += (int) Math.max(1, times);
            long spent = pass(part, (int) times, cells, vars, outs);
            if (spent > 0) {
                cycles += spent;
                trap = true;
                break;
            }
            cycles += whole(part, times);
            if (part.end == 0) {
                break;
            }
            x = part.end == 2 && vars[part.v] == 0 ? part.f : part.t;
        }
        memory = cells;
        variables = trap ? new int[12] : vars;
        outputs = outs;
        trapped = trap;
        turns = made;
        return (int) cycles;
    }

    private long whole(Part part, long times) {
        if (times <= 0) {
            return 1;
        }
        if (part.ii == 0) {
            return times * part.length + 1;
        }
        long most = 0;
        for (int k = 0; k < part.modulo.length; k++) {
            most = Math.max(most, part.modulo[k] + latency(part.ops.get(k)));
        }
        return Math.max((times + part.stages - 1) * part.ii, (times - 1) * part.ii + most) + 1;
    }

    /** The cycles until a trap, 0 when there is none. */
    private static long pass(Part part, int times, int[] cells, int[] vars, List<Integer> outs) {
        int[] cycle = part.ii > 0 ? part.modulo : part.list;
        for (int time = 0; time < times; time++) {
            for (int k = 0; k < part.ops.size(); k++) {
                if (!perform(part.ops.get(k), cells, vars, outs)) {
                    return (long) time * part.rows() + cycle[k] + 1;
                }
            }
        }
        return 0;
    }

    /** False when it traps. */
    private static boolean perform(Op op, int[] cells, int[] vars, List<Integer> outs) {
        if (op.guard() > 0 && vars[op.guard() - 1] == 0
                || op.guard() < 0 && vars[-1 - op.guard()] != 0) {
            return true;
        }
        int a = vars[op.a()];
        int b = vars[op.b()];
        int address = Math.floorMod(a + op.n(), 64);
        if (op.code() == 8) {
            cells[address] = b;
        } else if (op.code() == 9) {
            outs.add(a);
        } else if (op.code() == 6 && b == 0) {
            return false;
        } else {
            vars[op.d()] = value(op, a, b, cells[address]);
        }
        return true;
    }

    static int value(Op op, int a, int b, int cell) {
        switch (op.code()) {
            case 0:
                return op.n();
            case 1:
                return a + op.n();
            case 2:
                return a + b;
            case 3:
                return a - b;
            case 4:
                return a * b;
            case 5:
                return a < b ? 1 : 0;
            case 6:
                return a / b;
            default:
                return cell;
        }
    }

    int result(int what) {
        if (what < 0 || what > 2) {
            throw new IndexOutOfBoundsException();
        }
        return List.of(outputs.size(), trapped ? 1 : 0, turns).get(what);
    }

    int output(int i) {
        if (i < 0 || i > 63 || i >= outputs.size()) {
            throw new IndexOutOfBoundsException();
        }
        return outputs.get(i);
    }

    int variable(int v) {
        if (v < 0 || v > 11) {
            throw new IndexOutOfBoundsException();
        }
        return variables[v];
    }

    private Part part(int block) {
        if (parts == null) {
            throw new IllegalStateException();
        }
        if (block < 0 || block >= parts.size() || parts.get(block).gone) {
            throw new NoSuchElementException();
        }
        return parts.get(block);
    }

    int shape(int block, int what) {
        Part part = part(block);
        if (what < 0 || what > 6) {
            throw new IndexOutOfBoundsException();
        }
        return new int[] {part.ops.size(), part.length, part.mii, part.ii, part.stages, part.end,
            part.t}[what];
    }

    int place(int block, int k, int what) {
        Part part = part(block);
        if (k < 0 || k >= part.ops.size()) {
            throw new NoSuchElementException();
        }
        if (what < 0 || what > 4) {
            throw new IndexOutOfBoundsException();
        }
        return new int[] {part.ops.get(k).code(), part.ops.get(k).guard(), part.height[k],
            part.list[k], part.modulo[k]}[what];
    }

    long bundle(int block, int row, boolean modulo) {
        Part part = part(block);
        int rows = modulo ? part.ii : part.length;
        if (row < 0 || row >= rows) {
            throw new IndexOutOfBoundsException();
        }
        int[] cycles = modulo ? part.modulo : part.list;
        long[] slots = new long[6];
        for (int k = 0; k < cycles.length; k++) {
            if (cycles[k] % rows == row) {
                int slot = part.ops.get(k).port() ? 4 : 0;
                while (slots[slot] != 0) {
                    slot++;
                }
                slots[slot] = k + 1 + 16L * (cycles[k] / rows);
            }
        }
        long bits = 0;
        for (int slot = 5; slot >= 0; slot--) {
            bits = bits * 256 + slots[slot];
        }
        return bits;
    }

    double filled(int block) {
        Part part = part(block);
        return part.ops.isEmpty() ? 0.0
                : (double) part.ops.size() / (part.rows() * (machine[0] + machine[1]));
    }
}
