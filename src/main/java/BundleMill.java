import java.util.NoSuchElementException;

/**
 * A back end for a machine whose pipelines lie open: a program of blocks is checked, short
 * branches become guards, blocks are scheduled by lists, loops by iterative modulo scheduling,
 * all is packed into bundles of one long each, and a machine without interlocks runs these.
 *
 * All rows are made with the object and used again, so that no call makes any.
 */
public final class BundleMill {
    public static final int NONE = -1;

    private static final int BLOCKS = 6;
    private static final int OPERATIONS = 10;
    private static final int VARIABLES = 12;
    private static final int CELLS = 64;
    private static final int MOST_TURNS = 100;
    private static final int MOST_LATENCY = 8;
    private static final int MOST_STAGE = 15;
    private static final int KEPT_OUTPUTS = 64;

    private static final int HALT = 0;
    private static final int JUMP = 1;
    private static final int BRANCH = 2;
    private static final int LOOP = 3;

    private static final int SET = 0;
    private static final int STEP = 1;
    private static final int ADD = 2;
    private static final int SUB = 3;
    private static final int MUL = 4;
    private static final int LESS = 5;
    private static final int DIV = 6;
    private static final int LOAD = 7;
    private static final int STORE = 8;
    private static final int OUT = 9;

    /** Far below the weight of any edge. */
    private static final int NO_EDGE = -1000000;

    /** Far above any schedule: ten operations of latency 8 are done by cycle 80. */
    private static final int MOST_CYCLES = 1000;

    private final Machine target;
    private final Block[] given;
    private final Block[] built;
    private final Plan[] plans;
    private final Graph graph;
    private final ModuloScheduler modulos;
    private int blockCount;
    private boolean compiled;

    /** What the latest run told, and the memory. */
    private Outcome told;

    /** Where a run works, so that one that is refused leaves nothing behind. */
    private Outcome tried;

    public BundleMill() {
        target = new Machine();
        given = new Block[BLOCKS];
        built = new Block[BLOCKS];
        plans = new Plan[BLOCKS];
        for (int x = 0; x < BLOCKS; x++) {
            given[x] = new Block();
            built[x] = new Block();
            plans[x] = new Plan();
        }
        graph = new Graph();
        modulos = new ModuloScheduler();
        blockCount = 0;
        compiled = false;
        told = new Outcome();
        tried = new Outcome();
    }

    public void machine(int alus, int ports, int plain, int mul, int div, int load)
            throws IllegalArgumentException {
        boolean units = isFrom(1, alus, 4) && isFrom(1, ports, 2);
        boolean latencies = isFrom(1, plain, MOST_LATENCY) && isFrom(1, mul, MOST_LATENCY)
                && isFrom(1, div, MOST_LATENCY) && isFrom(1, load, MOST_LATENCY);
        if (!units || !latencies) {
            throw new IllegalArgumentException();
        }
        target.alus = alus;
        target.ports = ports;
        target.plain = plain;
        target.mul = mul;
        target.div = div;
        target.load = load;
        compiled = false;
    }

    public int block(int end, int v, int t, int f)
            throws IllegalArgumentException, IllegalStateException {
        if (!isFrom(HALT, end, LOOP) || !isVariable(v) || !isFrom(0, t, BLOCKS - 1)
                || !isFrom(0, f, BLOCKS - 1)) {
            throw new IllegalArgumentException();
        }
        if (blockCount >= BLOCKS) {
            throw new IllegalStateException();
        }
        given[blockCount].begin(end, v, t, f);
        blockCount++;
        compiled = false;
        return blockCount - 1;
    }

    public int operation(int code, int d, int a, int b, int n, int guard)
            throws IllegalArgumentException, IllegalStateException {
        if (!isFrom(SET, code, OUT) || !isVariable(d) || !isVariable(a) || !isVariable(b)
                || !isFrom(-VARIABLES, guard, VARIABLES)) {
            throw new IllegalArgumentException();
        }
        if (blockCount < 1 || given[blockCount - 1].count >= OPERATIONS) {
            throw new IllegalStateException();
        }
        Block latest = given[blockCount - 1];
        latest.add(code, d, a, b, n, guard);
        compiled = false;
        return latest.count - 1;
    }

    public void erase() {
        blockCount = 0;
        compiled = false;
    }

    public void poke(int address, int value) {
        told.memory[cell(address)] = value;
    }

    public int peek(int address) {
        return told.memory[cell(address)];
    }

    public int compile()
            throws IllegalStateException, IndexOutOfBoundsException, IllegalArgumentException {
        if (blockCount < 1) {
            throw new IllegalStateException();
        }
        if (someBlockIsMissing()) {
            throw new IndexOutOfBoundsException();
        }
        if (someLoopWritesItsCount()) {
            throw new IllegalArgumentException();
        }
        for (int x = 0; x < blockCount; x++) {
            built[x].copy(given[x]);
        }
        guardBranches(built, blockCount);
        compiled = true;
        return planBlocks();
    }

    public int run() throws IllegalStateException, UnsupportedOperationException {
        if (!compiled) {
            throw new IllegalStateException();
        }
        int cycles = cyclesOfRun();
        if (cycles == NONE) {
            throw new UnsupportedOperationException();
        }
        Outcome ended = tried;
        tried = told;
        told = ended;
        return cycles;
    }

    public int result(int what) throws IndexOutOfBoundsException {
        switch (what) {
            case 0:
                return told.outputCount;
            case 1:
                return told.trapped ? 1 : 0;
            case 2:
                return told.turns;
            default:
                throw new IndexOutOfBoundsException();
        }
    }

    public int output(int i) throws IndexOutOfBoundsException {
        if (i < 0 || i >= told.outputCount || i >= KEPT_OUTPUTS) {
            throw new IndexOutOfBoundsException();
        }
        return told.outputs[i];
    }

    public int variable(int v) throws IndexOutOfBoundsException {
        if (!isVariable(v)) {
            throw new IndexOutOfBoundsException();
        }
        return told.trapped ? 0 : told.variables[v];
    }

    public int shape(int block, int what)
            throws IllegalStateException, NoSuchElementException, IndexOutOfBoundsException {
        checkBlock(block);
        switch (what) {
            case 0:
                return built[block].count;
            case 1:
                return plans[block].length;
            case 2:
                return plans[block].leastInterval;
            case 3:
                return plans[block].interval;
            case 4:
                return plans[block].stages;
            case 5:
                return built[block].end;
            case 6:
                return built[block].t;
            default:
                throw new IndexOutOfBoundsException();
        }
    }

    public int place(int block, int k, int what)
            throws IllegalStateException, NoSuchElementException, IndexOutOfBoundsException {
        checkBlock(block);
        if (k < 0 || k >= built[block].count) {
            throw new NoSuchElementException();
        }
        switch (what) {
            case 0:
                return built[block].code[k];
            case 1:
                return built[block].guard[k];
            case 2:
                return plans[block].height[k];
            case 3:
                return plans[block].listCycle[k];
            case 4:
                return plans[block].moduloCycle[k];
            default:
                throw new IndexOutOfBoundsException();
        }
    }

    public long bundle(int block, int row, boolean modulo)
            throws IllegalStateException, NoSuchElementException, IndexOutOfBoundsException {
        checkBlock(block);
        Plan plan = plans[block];
        if (row < 0 || row >= (modulo ? plan.interval : plan.length)) {
            throw new IndexOutOfBoundsException();
        }
        return modulo ? plan.pack(built[block], plan.moduloCycle, plan.interval, row)
                : plan.pack(built[block], plan.listCycle, plan.length, row);
    }

    public double filled(int block) throws IllegalStateException, NoSuchElementException {
        checkBlock(block);
        int slots = plans[block].rows() * (target.alus + target.ports);
        return slots > 0 ? (double) built[block].count / slots : 0.0;
    }

    private void checkBlock(int block) {
        if (!compiled) {
            throw new IllegalStateException();
        }
        if (block < 0 || block >= blockCount || built[block].gone) {
            throw new NoSuchElementException();
        }
    }

    private static boolean isFrom(int least, int x, int most) {
        return x >= least && x <= most;
    }

    private static boolean isVariable(int v) {
        return isFrom(0, v, VARIABLES - 1);
    }

    private static boolean usesPort(int code) {
        return code >= LOAD;
    }

    private static int cell(int address) {
        return address & (CELLS - 1);
    }

    private boolean someBlockIsMissing() {
        for (int x = 0; x < blockCount; x++) {
            for (int y = blockCount; y < BLOCKS; y++) {
                if (given[x].comesTo(y)) {
                    return true;
                }
            }
        }
        return false;
    }

    private boolean someLoopWritesItsCount() {
        for (int x = 0; x < blockCount; x++) {
            if (given[x].end == LOOP && given[x].writesVariable(given[x].v)) {
                return true;
            }
        }
        return false;
    }

    private static void guardBranches(Block[] blocks, int count) {
        for (int x = 0; x < count; x++) {
            Block head = blocks[x];
            if (!head.gone && head.end == BRANCH && head.t != head.f) {
                guardBranch(blocks, count, x);
            }
        }
    }

    private static void guardBranch(Block[] blocks, int count, int x) {
        Block head = blocks[x];
        Block yes = blocks[head.t];
        Block no = blocks[head.f];
        boolean takesYes = yes.end == JUMP && mayTake(blocks, count, x, head.t);
        boolean takesNo = no.end == JUMP && mayTake(blocks, count, x, head.f);
        if (takesYes && takesNo && yes.t == no.t
                && head.count + yes.count + no.count <= OPERATIONS) {
            int next = yes.t;
            head.take(yes, 1 + head.v);
            head.take(no, -1 - head.v);
            head.jumpTo(next);
        } else if (takesYes && yes.t == head.f && head.count + yes.count <= OPERATIONS) {
            head.take(yes, 1 + head.v);
            head.jumpTo(head.f);
        } else if (takesNo && no.t == head.t && head.count + no.count <= OPERATIONS) {
            head.take(no, -1 - head.v);
            head.jumpTo(head.t);
        }
    }

    private static boolean mayTake(Block[] blocks, int count, int x, int y) {
        if (y == 0 || y == x || blocks[y].hasGuard() || blocks[y].writesVariable(blocks[x].v)) {
            return false;
        }
        for (int other = 0; other < count; other++) {
            if (other != x && !blocks[other].gone && blocks[other].comesTo(y)) {
                return false;
            }
        }
        return true;
    }

    private int planBlocks() {
        int bundles = 0;
        for (int x = 0; x < blockCount; x++) {
            if (!built[x].gone) {
                graph.draw(built[x], target);
                ListScheduler.schedule(graph, plans[x]);
                modulos.schedule(graph, plans[x]);
                bundles += plans[x].rows();
            }
        }
        return bundles;
    }

    /** How many cycles a run takes in the outcome tried, NONE when its turns are too many. */
    private int cyclesOfRun() {
        tried.begin(told.memory);
        int cycles = 0;
        int x = 0;
        for (int come = 0; come < MOST_TURNS; come++) {
            Block block = built[x];
            int times = block.end == LOOP ? Math.max(tried.variables[block.v], 0) : 1;
            if (!tried.makeTurns(times)) {
                return NONE;
            }
            cycles += cyclesOfBlock(block, plans[x], times);
            if (tried.trapped || block.end == HALT) {
                return cycles;
            }
            x = block.end == BRANCH && tried.variables[block.v] == 0 ? block.f : block.t;
        }
        return NONE;
    }

    private int cyclesOfBlock(Block block, Plan plan, int times) {
        for (int pass = 0; pass < times; pass++) {
            for (int k = 0; k < block.count; k++) {
                tried.perform(block, k);
                if (tried.trapped) {
                    return plan.cyclesUntil(pass, k);
                }
            }
        }
        return plan.cyclesOf(times);
    }

    /** The units and latencies of the machine. */
    private static final class Machine {
        int alus = 2;
        int ports = 1;
        int plain = 1;
        int mul = 3;
        int div = 8;
        int load = 2;

        int latency(int code) {
            switch (code) {
                case MUL:
                    return mul;
                case DIV:
                    return div;
                case LOAD:
                    return load;
                case STORE:
                case OUT:
                    return 1;
                default:
                    return plain;
            }
        }
    }

    /** A block, as it was given or as it is compiled: how it ends, and its operations. */
    private static final class Block {
        int end = HALT;
        int v = 0;
        int t = 0;
        int f = 0;
        int count = 0;
        boolean gone = false;
        final int[] code = new int[OPERATIONS];
        final int[] d = new int[OPERATIONS];
        final int[] a = new int[OPERATIONS];
        final int[] b = new int[OPERATIONS];
        final int[] n = new int[OPERATIONS];
        final int[] guard = new int[OPERATIONS];

        void begin(int end, int v, int t, int f) {
            this.end = end;
            this.v = v;
            this.t = t;
            this.f = f;
            count = 0;
            gone = false;
        }

        void add(int code, int d, int a, int b, int n, int guard) {
            if (count < OPERATIONS) {
                this.code[count] = code;
                this.d[count] = d;
                this.a[count] = a;
                this.b[count] = b;
                this.n[count] = n;
                this.guard[count] = guard;
                count++;
            }
        }

        void copy(Block other) {
            begin(other.end, other.v, other.t, other.f);
            for (int k = 0; k < other.count; k++) {
                add(other.code[k], other.d[k], other.a[k], other.b[k], other.n[k], other.guard[k]);
            }
        }

        void take(Block other, int guard) {
            for (int k = 0; k < other.count; k++) {
                add(other.code[k], other.d[k], other.a[k], other.b[k], other.n[k], guard);
            }
            other.gone = true;
        }

        void jumpTo(int next) {
            end = JUMP;
            t = next;
        }

        boolean comesTo(int block) {
            return end != HALT && t == block || end == BRANCH && f == block;
        }

        boolean hasGuard() {
            for (int k = 0; k < count; k++) {
                if (guard[k] != 0) {
                    return true;
                }
            }
            return false;
        }

        boolean writesVariable(int variable) {
            for (int k = 0; k < count; k++) {
                if (written(k) == variable) {
                    return true;
                }
            }
            return false;
        }

        /** The variable that operation k writes, or NONE. */
        int written(int k) {
            return code[k] < STORE ? d[k] : NONE;
        }

        /** The variable that guards operation k, or NONE. */
        int guarding(int k) {
            return Math.abs(guard[k]) - 1;
        }

        boolean reads(int k, int variable) {
            if (variable == NONE) {
                return false;
            }
            boolean readsA = code[k] != SET;
            boolean readsB = code[k] >= ADD && code[k] <= DIV || code[k] == STORE;
            return readsA && a[k] == variable || readsB && b[k] == variable
                    || guarding(k) == variable;
        }

        boolean usesMemory(int k) {
            return code[k] == LOAD || code[k] == STORE;
        }

        boolean stepsItself(int k) {
            return code[k] == STEP && d[k] == a[k] && guard[k] == 0;
        }
    }

    /** How a block is scheduled. */
    private static final class Plan {
        int length = 0;
        int leastInterval = 0;
        int interval = 0;
        int stages = 0;

        /** The greatest of cycle + latency of the modulo schedule. */
        int span = 0;
        final int[] height = new int[OPERATIONS];
        final int[] listCycle = new int[OPERATIONS];
        final int[] moduloCycle = new int[OPERATIONS];

        int rows() {
            return interval > 0 ? interval : length;
        }

        /** A LOOP that is never done takes the cycle in which it ends, by modulo, too. */
        int cyclesOf(int times) {
            if (times < 1) {
                return 1;
            }
            if (interval < 1) {
                return times * length + 1;
            }
            return Math.max((times + stages - 1) * interval, (times - 1) * interval + span) + 1;
        }

        int cyclesUntil(int pass, int k) {
            return pass * rows() + (interval > 0 ? moduloCycle[k] : listCycle[k]) + 1;
        }

        long pack(Block block, int[] cycle, int rows, int row) {
            long bits = 0;
            int alu = 0;
            int port = 4;
            for (int k = 0; k < block.count; k++) {
                if (rowOf(cycle[k], rows) == row) {
                    int stage = stageOf(cycle[k], rows);
                    int slot = usesPort(block.code[k]) ? port++ : alu++;
                    bits |= (long) (k + 1 + 16 * stage) << (8 * slot);
                }
            }
            return bits;
        }

        static int stageOf(int cycle, int rows) {
            return rows > 0 ? cycle / rows : 0;
        }

        static int rowOf(int cycle, int rows) {
            return rows > 0 ? cycle % rows : 0;
        }
    }

    /**
     * What the schedulers ask of a block: its operations' units and latencies, and its edges. Of
     * edges with the same ends and the same distance only the greatest delay tells, so for each
     * pair one edge of variables and order is kept, and one of memory.
     */
    private static final class Graph {
        static final int PAIRS = OPERATIONS * OPERATIONS;

        int count = 0;
        boolean loop = false;
        int alus = 0;
        int ports = 0;
        final boolean[] usesPort = new boolean[OPERATIONS];
        final int[] latency = new int[OPERATIONS];

        /** The edges of memory stand PAIRS behind those of variables and order. */
        final int[] delay = new int[2 * PAIRS];

        /** NONE where there is no edge. */
        final int[] distance = new int[2 * PAIRS];

        /** What the edges of a pair ask when they are weighed, NO_EDGE where there is none. */
        final int[] weight = new int[PAIRS];

        final boolean[] loose = new boolean[OPERATIONS];
        final int[] offset = new int[OPERATIONS];
        final int[] amount = new int[OPERATIONS];

        static int pair(int i, int j) {
            return i * OPERATIONS + j;
        }

        int unitsLike(int k) {
            return usesPort[k] ? ports : alus;
        }

        int countLike(boolean port) {
            int like = 0;
            for (int k = 0; k < count; k++) {
                like += usesPort[k] == port ? 1 : 0;
            }
            return like;
        }

        void draw(Block block, Machine machine) {
            count = block.count;
            loop = block.end == LOOP;
            alus = machine.alus;
            ports = machine.ports;
            for (int k = 0; k < count; k++) {
                usesPort[k] = usesPort(block.code[k]);
                latency[k] = machine.latency(block.code[k]);
                findOffset(block, k);
            }
            for (int i = 0; i < count; i++) {
                for (int j = 0; j < count; j++) {
                    distance[pair(i, j)] = NONE;
                    distance[PAIRS + pair(i, j)] = NONE;
                    if (i < j || loop) {
                        drawDirect(block, i, j);
                        drawMemory(block, i, j);
                    }
                }
            }
        }

        private void drawDirect(Block block, int i, int j) {
            int most = NO_EDGE;
            if (block.reads(j, block.written(i))) {
                most = Math.max(most, latency[i]);
            }
            if (block.reads(i, block.written(j))) {
                most = Math.max(most, 1 - latency[j]);
            }
            if (block.written(i) != NONE && block.written(i) == block.written(j)) {
                most = Math.max(most, latency[i] - latency[j] + 1);
            }
            if (keepOrder(block.code[i], block.code[j])) {
                most = Math.max(most, 1);
            }
            if (most != NO_EDGE) {
                delay[pair(i, j)] = most;
                distance[pair(i, j)] = i < j ? 0 : 1;
            }
        }

        private static boolean keepOrder(int one, int other) {
            return one == OUT && other == OUT || one == DIV && staysBehindTraps(other)
                    || other == DIV && staysBehindTraps(one);
        }

        private static boolean staysBehindTraps(int code) {
            return code == DIV || code == OUT || code == STORE;
        }

        private void drawMemory(Block block, int i, int j) {
            boolean stores = block.code[i] == STORE || block.code[j] == STORE;
            if (stores && block.usesMemory(i) && block.usesMemory(j)) {
                delay[PAIRS + pair(i, j)] = block.code[i] == STORE ? 1 : 0;
                distance[PAIRS + pair(i, j)] = meetingDistance(block, i, j);
            }
        }

        private int meetingDistance(Block block, int i, int j) {
            int least = i < j ? 0 : 1;
            if (block.a[i] != block.a[j] || loose[i]) {
                return least;
            }
            int most = loop ? CELLS : 0;
            for (int k = least; k <= most; k++) {
                if (cell(offset[i] - offset[j] - k * amount[i]) == 0) {
                    return k;
                }
            }
            return NONE;
        }

        private void findOffset(Block block, int k) {
            loose[k] = false;
            offset[k] = block.n[k];
            amount[k] = 0;
            int writers = 0;
            for (int w = 0; w < block.count; w++) {
                if (block.written(w) == block.a[k]) {
                    writers++;
                    loose[k] = writers > 1 || !block.stepsItself(w);
                    amount[k] = block.n[w];
                    offset[k] += w < k ? block.n[w] : 0;
                }
            }
        }

        /** Weighs the edges whose distance is not above the farthest. */
        void weigh(int interval, int farthest) {
            for (int i = 0; i < count; i++) {
                for (int j = 0; j < count; j++) {
                    int at = pair(i, j);
                    weight[at] = NO_EDGE;
                    weighEdge(at, at, interval, farthest);
                    weighEdge(at, PAIRS + at, interval, farthest);
                }
            }
        }

        private void weighEdge(int at, int edge, int interval, int farthest) {
            int asked = delay[edge] - interval * distance[edge];
            if (distance[edge] != NONE && distance[edge] <= farthest && asked > weight[at]) {
                weight[at] = asked;
            }
        }

        /** The greatest of least and of weight + value of j, for the edges from i. */
        int greatestBehind(int i, int[] value, int least) {
            int most = least;
            for (int j = 0; j < count; j++) {
                if (weight[pair(i, j)] != NO_EDGE) {
                    most = Math.max(most, weight[pair(i, j)] + value[j]);
                }
            }
            return most;
        }

        /** The first cycle that the edges to j from scheduled operations leave, 0 at least. */
        int early(int j, int[] cycle) {
            int most = 0;
            for (int i = 0; i < count; i++) {
                if (weight[pair(i, j)] != NO_EDGE && cycle[i] != NONE) {
                    most = Math.max(most, cycle[i] + weight[pair(i, j)]);
                }
            }
            return most;
        }

        /** The first cycle in which all that a schedule writes is there. */
        int end(int[] cycle) {
            int most = 0;
            for (int k = 0; k < count; k++) {
                most = Math.max(most, cycle[k] + latency[k]);
            }
            return most;
        }
    }

    /** Schedules a block by lists. */
    private static final class ListScheduler {
        static void schedule(Graph graph, Plan plan) {
            graph.weigh(0, 0);
            for (int k = graph.count - 1; k >= 0; k--) {
                plan.height[k] = graph.greatestBehind(k, plan.height, graph.latency[k]);
                plan.listCycle[k] = NONE;
            }
            int left = graph.count;
            for (int cycle = 0; cycle < MOST_CYCLES && left > 0; cycle++) {
                left -= fillCycle(graph, plan, cycle);
            }
            plan.length = graph.end(plan.listCycle);
        }

        /** How many operations got the cycle. */
        private static int fillCycle(Graph graph, Plan plan, int cycle) {
            int freeAlus = graph.alus;
            int freePorts = graph.ports;
            for (int got = 0; got < graph.count; got++) {
                int k = highestReady(graph, plan, cycle, freeAlus, freePorts);
                if (k == NONE) {
                    return got;
                }
                plan.listCycle[k] = cycle;
                freeAlus -= graph.usesPort[k] ? 0 : 1;
                freePorts -= graph.usesPort[k] ? 1 : 0;
            }
            return graph.count;
        }

        private static int highestReady(Graph graph, Plan plan, int cycle, int freeAlus,
                int freePorts) {
            int best = NONE;
            for (int k = 0; k < graph.count; k++) {
                boolean free = (graph.usesPort[k] ? freePorts : freeAlus) > 0;
                if (plan.listCycle[k] == NONE && free && isReady(graph, plan, k, cycle)
                        && (best == NONE || plan.height[k] > plan.height[best])) {
                    best = k;
                }
            }
            return best;
        }

        private static boolean isReady(Graph graph, Plan plan, int k, int cycle) {
            for (int i = 0; i < k; i++) {
                int weight = graph.weight[Graph.pair(i, k)];
                if (weight != NO_EDGE
                        && (plan.listCycle[i] == NONE || plan.listCycle[i] + weight > cycle)) {
                    return false;
                }
            }
            return true;
        }
    }

    /** Schedules a loop by iterative modulo scheduling. */
    private static final class ModuloScheduler {
        static final int STEPS_FOR_EACH = 6;

        final int[] priority = new int[OPERATIONS];

        /** The cycle that an operation had last in this try, NONE when it never had one. */
        final int[] lastCycle = new int[OPERATIONS];

        /** The row of the cycle that it had last. */
        final int[] lastRow = new int[OPERATIONS];

        /** Expects that the block has been scheduled by lists. */
        void schedule(Graph graph, Plan plan) {
            plan.leastInterval = 0;
            dropSchedule(graph, plan);
            if (!graph.loop || graph.count == 0) {
                return;
            }
            plan.leastInterval = leastInterval(graph);
            for (int interval = plan.leastInterval; interval <= plan.length; interval++) {
                if (tryInterval(graph, plan, interval)) {
                    keepSchedule(graph, plan, interval);
                    return;
                }
            }
            dropSchedule(graph, plan);
        }

        private static void dropSchedule(Graph graph, Plan plan) {
            plan.interval = 0;
            plan.stages = 0;
            plan.span = 0;
            for (int k = 0; k < graph.count; k++) {
                plan.moduloCycle[k] = NONE;
            }
        }

        private static void keepSchedule(Graph graph, Plan plan, int interval) {
            plan.interval = interval;
            plan.stages = 1 + greatestStage(graph, plan, interval);
            plan.span = graph.end(plan.moduloCycle);
        }

        private static int greatestStage(Graph graph, Plan plan, int interval) {
            int most = 0;
            for (int k = 0; k < graph.count; k++) {
                most = Math.max(most, Plan.stageOf(plan.moduloCycle[k], interval));
            }
            return most;
        }

        private int leastInterval(Graph graph) {
            int aluCount = graph.countLike(false);
            int portCount = graph.countLike(true);
            for (int interval = 1; interval < MOST_CYCLES; interval++) {
                if (aluCount <= interval * graph.alus && portCount <= interval * graph.ports
                        && findPriorities(graph, interval)) {
                    return interval;
                }
            }
            return MOST_CYCLES;
        }

        /**
         * False when the edges of a closed way ask for more than the interval: then priorities
         * still rise when every way without a closed part has been gone.
         */
        private boolean findPriorities(Graph graph, int interval) {
            graph.weigh(interval, CELLS);
            for (int k = 0; k < graph.count; k++) {
                priority[k] = 0;
            }
            for (int round = 0; round <= graph.count; round++) {
                boolean risen = false;
                for (int k = graph.count - 1; k >= 0; k--) {
                    int now = graph.greatestBehind(k, priority, 0);
                    risen = risen || now > priority[k];
                    priority[k] = Math.max(priority[k], now);
                }
                if (!risen) {
                    return true;
                }
            }
            return false;
        }

        private boolean tryInterval(Graph graph, Plan plan, int interval) {
            if (!findPriorities(graph, interval)) {
                return false;
            }
            for (int k = 0; k < graph.count; k++) {
                plan.moduloCycle[k] = NONE;
                lastCycle[k] = NONE;
            }
            for (int step = 0; step < STEPS_FOR_EACH * graph.count; step++) {
                int k = nextOperation(graph, plan);
                if (k == NONE) {
                    break;
                }
                settle(graph, plan, k, interval);
            }
            return nextOperation(graph, plan) == NONE
                    && greatestStage(graph, plan, interval) <= MOST_STAGE;
        }

        private int nextOperation(Graph graph, Plan plan) {
            int best = NONE;
            for (int k = 0; k < graph.count; k++) {
                if (plan.moduloCycle[k] == NONE && (best == NONE || priority[k] > priority[best])) {
                    best = k;
                }
            }
            return best;
        }

        /** Gives operation k a cycle, and takes theirs from those that it drives out. */
        private void settle(Graph graph, Plan plan, int k, int interval) {
            int early = graph.early(k, plan.moduloCycle);
            int cycle = firstFree(graph, plan, k, early, interval);
            if (cycle == NONE) {
                cycle = lastCycle[k] == NONE || early > lastCycle[k] ? early : lastCycle[k] + 1;
                driveOut(graph, plan, k, Plan.rowOf(cycle, interval));
            }
            plan.moduloCycle[k] = cycle;
            lastCycle[k] = cycle;
            lastRow[k] = Plan.rowOf(cycle, interval);
            for (int j = 0; j < graph.count; j++) {
                int weight = graph.weight[Graph.pair(k, j)];
                if (j != k && weight != NO_EDGE && plan.moduloCycle[j] != NONE
                        && cycle + weight > plan.moduloCycle[j]) {
                    plan.moduloCycle[j] = NONE;
                }
            }
        }

        private int firstFree(Graph graph, Plan plan, int k, int early, int interval) {
            for (int cycle = early; cycle < early + interval; cycle++) {
                int row = Plan.rowOf(cycle, interval);
                int taken = 0;
                for (int other = 0; other < graph.count; other++) {
                    taken += takesUnit(graph, plan, other, k, row) ? 1 : 0;
                }
                if (taken < graph.unitsLike(k)) {
                    return cycle;
                }
            }
            return NONE;
        }

        /**
         * The document asks for it, though no try needs it: from MII on there are never more
         * operations of a sort than its units in all rows, so one of these is free.
         */
        private void driveOut(Graph graph, Plan plan, int k, int row) {
            int least = NONE;
            for (int other = 0; other < graph.count; other++) {
                if (takesUnit(graph, plan, other, k, row)
                        && (least == NONE || priority[other] <= priority[least])) {
                    least = other;
                }
            }
            if (least != NONE) {
                plan.moduloCycle[least] = NONE;
            }
        }

        /** Whether another operation has a unit in the row that k could have. */
        private boolean takesUnit(Graph graph, Plan plan, int other, int k, int row) {
            return plan.moduloCycle[other] != NONE && lastRow[other] == row
                    && graph.usesPort[other] == graph.usesPort[k];
        }
    }

    /** What a run tells, and the memory that it leaves. */
    private static final class Outcome {
        int outputCount = 0;
        int turns = 0;
        boolean trapped = false;
        final int[] outputs = new int[KEPT_OUTPUTS];
        final int[] variables = new int[VARIABLES];
        final int[] memory = new int[CELLS];

        void begin(int[] cells) {
            outputCount = 0;
            turns = 0;
            trapped = false;
            for (int v = 0; v < VARIABLES; v++) {
                variables[v] = 0;
            }
            for (int address = 0; address < CELLS && address < cells.length; address++) {
                memory[address] = cells[address];
            }
        }

        /** False, and nothing done, when there would be too many turns. */
        boolean makeTurns(int times) {
            int more = Math.max(times, 1);
            if (more > MOST_TURNS - turns) {
                return false;
            }
            turns += more;
            return true;
        }

        void perform(Block block, int k) {
            if (!isAllowed(block.guard[k])) {
                return;
            }
            int a = variables[block.a[k]];
            int b = variables[block.b[k]];
            int n = block.n[k];
            switch (block.code[k]) {
                case STORE:
                    memory[cell(a + n)] = b;
                    break;
                case OUT:
                    putOut(a);
                    break;
                case DIV:
                    divide(block.d[k], a, b);
                    break;
                default:
                    variables[block.d[k]] = valueOf(block.code[k], a, b, n);
            }
        }

        private boolean isAllowed(int guard) {
            if (guard == 0) {
                return true;
            }
            return guard > 0 ? variables[guard - 1] != 0 : variables[-1 - guard] == 0;
        }

        private void putOut(int value) {
            if (outputCount < KEPT_OUTPUTS) {
                outputs[outputCount] = value;
            }
            outputCount++;
        }

        private void divide(int d, int a, int b) {
            if (b == 0) {
                trapped = true;
            } else {
                variables[d] = a / b;
            }
        }

        private int valueOf(int code, int a, int b, int n) {
            switch (code) {
                case SET:
                    return n;
                case STEP:
                    return a + n;
                case ADD:
                    return a + b;
                case SUB:
                    return a - b;
                case MUL:
                    return a * b;
                case LESS:
                    return a < b ? 1 : 0;
                default:
                    return memory[cell(a + n)];
            }
        }
    }
}
