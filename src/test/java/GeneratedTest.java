import java.util.ArrayList;
import java.util.List;
import java.util.function.Consumer;

/**
 * All promises, on many made-up programs: what the program answers is compared with the model, and
 * with a machine that runs the bundles.
 */
public final class GeneratedTest {
    private static final int PROGRAMS = 6000;

    private static final int MOST_CALLS = 512;

    private final Checks checks = new Checks("GeneratedTest");
    private final List<Consumer<BundleMill>> steps = new ArrayList<>();
    private Model model = new Model();
    private BundleMill mill = new BundleMill();
    private int calls = 0;
    private int mostCalls = 0;
    private int loopsByModulo = 0;
    private int loopsByList = 0;
    private int guards = 0;
    private int traps = 0;
    private int laterTries = 0;
    private int refused = 0;
    private int staged = 0;
    private int ended = 0;

    public static void main(String[] args) {
        int programs = args.length > 0 ? Integer.parseInt(args[0]) : PROGRAMS;
        int first = args.length > 1 ? Integer.parseInt(args[1]) : 1;
        new GeneratedTest().all(programs, first);
    }

    private void all(int programs, int first) {
        for (int seed = first; seed < first + programs; seed++) {
            Numbers numbers = new Numbers(seed);
            if (seed % 2 == 0 || numbers.once(2)) {
                steps.clear();
                model = new Model();
            }
            makeMachine(numbers);
            makeProgram(numbers);
            compareProgram(seed, numbers);
        }
        checks.holds("calls of one object: " + mostCalls, mostCalls <= MOST_CALLS);
        checks.holds("modulo schedules " + loopsByModulo, loopsByModulo > programs / 10);
        checks.holds("loops by list " + loopsByList, loopsByList > 0);
        checks.holds("later tries " + laterTries, laterTries > 0);
        checks.holds("more stages " + staged, staged > programs / 100);
        checks.holds("guards " + guards, guards > programs / 20);
        checks.holds("traps " + traps, traps > programs / 100);
        checks.holds("refused runs " + refused, refused > programs / 100);
        checks.holds("ended runs " + ended, ended > programs / 10);
        System.out.println("GeneratedTest: " + loopsByModulo + " loops by modulo, " + loopsByList
                + " by list, " + laterTries + " not at MII, " + staged + " of more stages, "
                + guards + " guarded branches, " + traps + " traps, " + refused + " runs refused, "
                + ended + " runs ended");
        checks.end();
    }

    /** A new object with which all has been done that was done until now: it has calls left. */
    private void renew() {
        mill = new BundleMill();
        calls = 0;
        for (Consumer<BundleMill> step : steps) {
            Checks.told(() -> {
                step.accept(mill);
                return "done";
            });
            countCall();
        }
    }

    private void countCall() {
        calls++;
        mostCalls = Math.max(mostCalls, calls);
    }

    private void makeMachine(Numbers numbers) {
        int most = numbers.once(2) ? 3 : 8;
        int alus = numbers.once(2) ? 1 : numbers.from(1, 4);
        int ports = numbers.from(1, 2);
        int plain = numbers.once(2) ? 1 : numbers.from(1, most);
        int mul = numbers.from(1, most);
        int div = numbers.from(1, most);
        int load = numbers.from(1, most);
        steps.add(x -> x.machine(alus, ports, plain, mul, div, load));
        model.machine(alus, ports, plain, mul, div, load);
        steps.add(BundleMill::erase);
        model.erase();
        for (int k = 0; k < 8; k++) {
            int address = numbers.from(-70, 70);
            int value = numbers.from(-3, 5);
            steps.add(x -> x.poke(address, value));
            model.poke(address, value);
        }
    }

    private void block(int end, int v, int t, int f) {
        steps.add(x -> x.block(end, v, t, f));
        model.block(end, v, t, f);
    }

    private void operation(int code, int d, int a, int b, int n, int guard) {
        steps.add(x -> x.operation(code, d, a, b, n, guard));
        model.operation(code, d, a, b, n, guard);
    }

    private void makeProgram(Numbers numbers) {
        if (numbers.once(6)) {
            makeStrides(numbers);
        } else if (numbers.once(2)) {
            makeLoop(numbers);
        } else if (numbers.once(2)) {
            makeBranches(numbers);
        } else {
            makeAnything(numbers);
        }
    }

    /** Sets, a loop whose count is variable 0, and what tells of it. */
    private void makeLoop(Numbers numbers) {
        block(1, 0, 1, 0);
        operation(0, 0, 0, 0, numbers.once(8) ? numbers.from(-1, 99) : numbers.from(1, 9), 0);
        int variables = numbers.from(2, 5);
        for (int v = 1; v <= variables; v++) {
            operation(0, v, 0, 0, numbers.from(-4, 8), 0);
        }
        block(3, 0, 2, 0);
        int count = numbers.from(1, 10);
        for (int k = 0; k < count; k++) {
            int v = numbers.from(1, variables);
            boolean step = numbers.once(4);
            int code = step ? 1 : numbers.once(2) ? numbers.from(7, 8) : numbers.from(0, 9);
            if (code == 6 && !numbers.once(3)) {
                code = 4;
            }
            operation(code, v, step ? v : numbers.from(0, variables), numbers.from(0, variables),
                    numbers.once(10) ? numbers.from(-70, 70) * 1000003 : numbers.from(-2, 2),
                    guard(numbers, variables, 6));
        }
        block(0, 0, 0, 0);
        for (int v = 1; v <= variables; v++) {
            operation(9, 0, v, 0, 0, 0);
        }
    }

    /** A loop of LOADs and STOREs of one variable and its STEP, which meet some times behind. */
    private void makeStrides(Numbers numbers) {
        block(1, 0, 1, 0);
        operation(0, 0, 0, 0, numbers.from(1, 90), 0);
        block(3, 0, 2, 0);
        int count = numbers.from(3, 8);
        int[] amounts = {1, -1, 2, -2, 3, 16, 31, 32, 33};
        int amount = amounts[numbers.below(amounts.length)];
        int stepped = numbers.below(count);
        for (int k = 0; k < count; k++) {
            if (k == stepped) {
                operation(1, 1, 1, 0, amount, 0);
            } else if (numbers.once(4)) {
                operation(numbers.from(2, 4), numbers.from(2, 5), numbers.from(2, 5),
                        numbers.from(2, 5), 0, 0);
            } else {
                operation(numbers.from(7, 8), numbers.from(2, 5), 1, numbers.from(2, 5),
                        numbers.once(3) ? numbers.from(-32, 31) : numbers.from(-2, 2), 0);
            }
        }
        block(0, 0, 0, 0);
    }

    private static int guard(Numbers numbers, int variables, int in) {
        return numbers.once(in) ? numbers.from(-1 - variables, 1 + variables) : 0;
    }

    /** Branches of the three sorts that may become guards, some of them spoilt. */
    private void makeBranches(Numbers numbers) {
        int blocks = numbers.from(3, 6);
        int[] end = new int[blocks];
        int[] t = new int[blocks];
        int[] f = new int[blocks];
        int x = 0;
        while (x < blocks - 1) {
            x = layBranch(numbers, x, end, t, f);
        }
        int spoilt = numbers.below(3);
        for (int k = 0; k < spoilt; k++) {
            (numbers.once(2) ? t : f)[numbers.below(blocks)] = numbers.below(blocks);
            end[numbers.below(blocks)] = numbers.below(4);
        }
        int[] number = new int[blocks];
        int shift = numbers.once(3) ? numbers.below(blocks) : 0;
        boolean mirror = numbers.once(3);
        for (int k = 0; k < blocks; k++) {
            number[k] = k == 0 ? 0 : 1 + (mirror ? blocks - 1 - k : (k + shift) % (blocks - 1));
        }
        for (int k = 0; k < blocks; k++) {
            int from = 0;
            while (number[from] != k) {
                from++;
            }
            boolean last = end[from] == 0;
            block(end[from], end[from] == 3 ? 5 : numbers.below(3), last ? 0 : number[t[from]],
                    last ? 0 : number[f[from]]);
            fillBlock(numbers, end[from] == 2);
        }
    }

    /** Lays a branch and what it may take from block x on: the block behind them. */
    private static int layBranch(Numbers numbers, int x, int[] end, int[] t, int[] f) {
        int most = end.length - 1;
        boolean both = numbers.once(2);
        int z = Math.min(most, x + (both ? 3 : 2));
        int near = Math.min(most, x + 1);
        int far = both ? Math.min(most, x + 2) : z;
        boolean turned = numbers.once(2);
        end[x] = 2;
        t[x] = turned ? far : near;
        f[x] = turned ? near : far;
        for (int y = x + 1; y < z; y++) {
            end[y] = 1;
            t[y] = z;
        }
        end[z] = 0;
        return z;
    }

    private void fillBlock(Numbers numbers, boolean head) {
        int count = numbers.once(4) ? numbers.from(0, 9) : numbers.from(0, 3);
        int guarded = numbers.once(8) ? 2 : 1000;
        int wild = numbers.once(8) ? 2 : 1000;
        for (int k = 0; k < count; k++) {
            int d = numbers.once(wild) || head ? numbers.below(5) : numbers.from(3, 4);
            operation(numbers.below(10), d, numbers.below(5), numbers.below(5),
                    numbers.from(-3, 3), guard(numbers, 4, guarded));
        }
    }

    private void makeAnything(Numbers numbers) {
        int blocks = numbers.from(1, 6);
        for (int x = 0; x < blocks; x++) {
            block(numbers.below(4), numbers.below(12),
                    numbers.once(20) ? numbers.below(6) : numbers.below(blocks),
                    numbers.once(20) ? numbers.below(6) : numbers.below(blocks));
            int count = numbers.from(0, 10);
            for (int k = 0; k < count; k++) {
                operation(numbers.below(10), numbers.below(12), numbers.below(12),
                        numbers.below(12), numbers.from(-100, 100), guard(numbers, 11, 3));
            }
        }
    }

    private void compareProgram(int seed, Numbers numbers) {
        renew();
        same(seed + " compile()", mill::compile, model::compile);
        steps.add(BundleMill::compile);
        for (int x = -1; x <= model.given.size(); x++) {
            compareBlock(seed, x);
        }
        if (model.parts != null) {
            for (Model.Part part : model.parts) {
                loopsByModulo += part.ii > 0 ? 1 : 0;
                staged += part.stages > 1 ? 1 : 0;
                laterTries += part.ii > part.mii ? 1 : 0;
                loopsByList += part.mii > 0 && part.ii == 0 ? 1 : 0;
                guards += part.gone ? 1 : 0;
            }
        }
        compareRun(seed);
        if (numbers.once(3)) {
            compareRun(seed);
        }
    }

    private void compareBlock(int seed, int x) {
        renew();
        String where = seed + " block " + x;
        same(where + " filled", () -> mill.filled(x), () -> model.filled(x));
        for (int what = -1; what <= 7; what++) {
            int k = what;
            same(where + " shape " + k, () -> mill.shape(x, k), () -> model.shape(x, k));
        }
        boolean stands = model.parts != null && x >= 0 && x < model.parts.size()
                && !model.parts.get(x).gone;
        int count = stands ? model.parts.get(x).ops.size() : 0;
        for (int k = -1; k <= count; k++) {
            for (int what = -1; what <= 5; what++) {
                int one = k;
                int other = what;
                same(where + " place " + k + ", " + what, () -> mill.place(x, one, other),
                        () -> model.place(x, one, other));
            }
        }
        for (int row = -1; row <= (stands ? model.parts.get(x).length : 0); row++) {
            int one = row;
            same(where + " bundle " + row, () -> mill.bundle(x, one, false),
                    () -> model.bundle(x, one, false));
            same(where + " modulo bundle " + row, () -> mill.bundle(x, one, true),
                    () -> model.bundle(x, one, true));
        }
    }

    private void compareRun(int seed) {
        renew();
        int[] before = model.memory.clone();
        String cycles = Checks.told(model::run);
        same(seed + " run()", mill::run, () -> cycles);
        steps.add(BundleMill::run);
        for (int what = -1; what <= 3; what++) {
            int k = what;
            same(seed + " result " + k, () -> mill.result(k), () -> model.result(k));
        }
        for (int i = -1; i <= 65; i++) {
            int k = i;
            same(seed + " output " + k, () -> mill.output(k), () -> model.output(k));
        }
        for (int v = -1; v <= 12; v++) {
            int k = v;
            same(seed + " variable " + k, () -> mill.variable(k), () -> model.variable(k));
        }
        for (int address = 0; address < 64; address++) {
            int k = address;
            same(seed + " peek " + k, () -> mill.peek(k), () -> model.peek(k));
        }
        refused += cycles.equals("throws." + Checks.UNSUPPORTED) ? 1 : 0;
        if (!cycles.startsWith("throws")) {
            ended++;
            traps += model.trapped ? 1 : 0;
            compareMachine(seed, before, Long.parseLong(cycles));
        }
    }

    private void compareMachine(int seed, int[] before, long cycles) {
        OpenMachine machine = new OpenMachine(model, before);
        for (int x = 0; x < model.parts.size(); x++) {
            if (!model.parts.get(x).gone) {
                renew();
                machine.read(mill, x);
            }
        }
        checks.same(seed + " cycles of the machine", machine.go(), cycles);
        checks.holds(seed + " pipelines are empty at a block's end", !machine.late);
        checks.holds(seed + " trap of the machine", machine.trapped == model.trapped);
        checks.holds(seed + " outputs of the machine", machine.outputs.equals(model.outputs));
        for (int address = 0; address < 64; address++) {
            checks.same(seed + " memory of the machine " + address, machine.memory[address],
                    model.memory[address]);
        }
        for (int v = 0; v < 12 && !machine.trapped; v++) {
            checks.same(seed + " variable of the machine " + v, machine.variables[v],
                    model.variables[v]);
        }
    }

    private void same(String what, Checks.Call got, Checks.Call due) {
        countCall();
        checks.same(what, Checks.told(got), Checks.told(due));
    }
}
