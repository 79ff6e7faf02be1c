import java.util.Random;

/** Runs of calls by chance (of fixed seeds), each answer held against the model's; no call may throw. */
public final class ModelTest {
    private static final int RUNS = 1500;
    private static final int CALLS = 512;
    private static final int[] FAR_OUT = {
        Integer.MIN_VALUE, Integer.MIN_VALUE + 1, -1000, -1, 0, 12, 300, 1000, Integer.MAX_VALUE - 1, Integer.MAX_VALUE};

    private final Random random;
    private final int run;
    private final IcePads pads = new IcePads();
    private final Model model = new Model();
    /** Of a hundred arguments, how many are taken from anywhere. */
    private final int wild;

    private ModelTest(int run) {
        this.run = run;
        this.random = new Random(run);
        this.wild = run % 5 == 0 ? 30 : 1;
    }

    public static void main(String[] args) {
        for (int run = 0; run < RUNS; run++) new ModelTest(run).go();
        Checks.finish();
    }

    private void go() {
        int mostMinutes = 1 + random.nextInt(12);
        for (int i = 0; i < CALLS; i++) {
            int kind = random.nextInt(24);
            if (i < 6 && random.nextBoolean()) kind = 3;
            if (kind < 8) weatherOrFluid(kind);
            else if (kind < 14) padsOrJets(kind, mostMinutes);
            else look(kind);
        }
    }

    private void weatherOrFluid(int kind) {
        int minute = number(model.count(0) - 2, model.count(0) + 40);
        int fluid = number(-1, 4);
        switch (kind) {
            case 0: case 1: {
                int cold = number(-31, 6);
                int fall = number(-1, 4);
                due("weather", pads.weather(minute, cold, fall), model.weather(minute, cold, fall), minute, cold, fall);
                break;
            }
            case 2: due("loses", pads.loses(minute), model.loses(minute), minute); break;
            case 3: makeFluid(); break;
            case 4: case 5: due("hold", pads.hold(fluid, minute), model.hold(fluid, minute), fluid, minute); break;
            case 6: {
                int n = number(0, 200);
                due("fill", pads.fill(fluid, n), model.fill(fluid, n), fluid, n);
                break;
            }
            default: {
                int what = number(-1, 3);
                due("known", pads.known(minute, what), model.known(minute, what), minute, what);
            }
        }
    }

    private void makeFluid() {
        int a = number(0, 60);
        int[] f = {number(0, 2), a, a - number(0, 20), 0, 0, number(0, 5), number(0, 11), number(0, 2000)};
        f[3] = f[2] - number(0, 10);
        f[4] = f[3] - number(0, 5);
        due("fluid", pads.fluid(f[0], f[1], f[2], f[3], f[4], f[5], f[6], f[7]), model.fluid(f), f);
    }

    private void padsOrJets(int kind, int mostMinutes) {
        switch (kind) {
            case 8: {
                int what = number(-1, 3);
                int v = what == 1 ? number(9, 120) : what == 2 ? number(0, 20) : number(0, 4);
                due("set", pads.set(what, v), model.set(what, v), what, v);
                break;
            }
            case 9: case 10: {
                int size = number(0, 6);
                int ready = number(model.count(0) - 1, model.count(0) + 15);
                int roll = number(0, 21);
                int fluid = number(-1, 4);
                due("jet", pads.jet(size, ready, roll, fluid), model.jet(size, ready, roll, fluid), size, ready, roll, fluid);
                break;
            }
            default: {
                int n = number(0, mostMinutes);
                due("minutes", pads.minutes(n), model.minutes(n), n);
            }
        }
    }

    private void look(int kind) {
        int what = number(-1, 10);
        int jet = number(-1, 12);
        int pad = number(-1, 3);
        int i = number(-1, 5);
        switch (kind) {
            case 14: case 15: case 16: due("about", pads.about(jet, what), model.about(jet, what), jet, what); break;
            case 17: due("on", pads.on(pad), model.on(pad), pad); break;
            case 18: due("litres", pads.litres(pad), model.litres(pad), pad); break;
            case 19: case 20: due("plan", pads.plan(pad, i), model.plan(pad, i), pad, i); break;
            case 21: due("trace", pads.trace(), model.trace()); break;
            default: due("count", pads.count(what), model.count(what), what);
        }
    }

    private int number(int least, int most) {
        if (random.nextInt(100) < wild) return FAR_OUT[random.nextInt(FAR_OUT.length)];
        return least + random.nextInt(most - least + 1);
    }

    private void due(String call, long got, long want, int... arguments) {
        Checks.due("run " + run + ": " + call + java.util.Arrays.toString(arguments), got, want);
    }
}
