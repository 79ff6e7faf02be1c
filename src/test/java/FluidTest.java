/** Promises 5 fluid, 6 hold, 7 fill, 13 litres, 16 trace. */
public final class FluidTest {
    private static final int BAD = IcePads.BAD;
    private static final int FULL = IcePads.FULL;

    public static void main(String[] args) {
        promise5Fluid();
        promise5LooksNotAtWhatIsUnused();
        promise5Refuses();
        promise6HoldByKind();
        promise6HoldByWeather();
        promise6HoldInMissingMinutes();
        promise6Refuses();
        promise7FillAnd13Litres();
        promise16Trace();
        promise16TraceIsOfHoldAlone();
        Checks.finish();
    }

    private static void promise5Fluid() {
        IcePads pads = new IcePads();
        Checks.due("the first", pads.fluid(0, 0, 0, 0, 0, 1, 1, 0), 0);
        Checks.due("the second", pads.fluid(1, 100, 100, 100, 100, 4, 1, 2000), 1);
        Checks.due("the third", pads.fluid(2, 100, 50, 50, 0, 1, 1, 1), 2);
        Checks.due("the fourth", pads.fluid(2, 4, 3, 2, 1, 4, 10, 1999), 3);
        Checks.due("a fifth", pads.fluid(2, 4, 3, 2, 1, 4, 10, 1999), FULL);
        Checks.due("a fifth, not as told", pads.fluid(2, 4, 3, 2, 3, 4, 10, 1999), BAD);
        Checks.due("count(1)", pads.count(1), 4);
        Checks.due("litres(1)", pads.litres(1), 2000);
        Checks.due("litres(3)", pads.litres(3), 1999);
    }

    private static void promise5LooksNotAtWhatIsUnused() {
        IcePads pads = new IcePads();
        Checks.due("THIN without TIMES, PARTS", pads.fluid(0, 9, 8, 7, 6, 0, 0, 5), 0);
        Checks.due("THIN, TIMES far out", pads.fluid(0, 9, 8, 7, 6, Integer.MAX_VALUE, Integer.MIN_VALUE, 5), 1);
        Checks.due("THICK, PARTS 0", pads.fluid(1, 9, 8, 7, 6, 2, 0, 5), 2);
        Checks.due("THICK, PARTS 11", pads.fluid(1, 9, 8, 7, 6, 2, 11, 5), 3);
        Checks.due("hold(0, 0)", pads.hold(0, 0), 9);
        Checks.due("hold(1, 0)", pads.hold(1, 0), 9);
        Checks.due("hold(2, 0)", pads.hold(2, 0), 18);
        Checks.due("hold(3, 0)", pads.hold(3, 0), 18);
    }

    private static void promise5Refuses() {
        int[][] wrong = {
            {-1, 9, 8, 7, 6, 1, 1, 5}, {3, 9, 8, 7, 6, 1, 1, 5},
            {0, 101, 8, 7, 6, 1, 1, 5}, {0, 9, 10, 7, 6, 1, 1, 5}, {0, 9, 8, 9, 6, 1, 1, 5},
            {0, 9, 8, 7, 8, 1, 1, 5}, {0, 9, 8, 7, -1, 1, 1, 5}, {0, -1, -1, -1, -1, 1, 1, 5},
            {1, 9, 8, 7, 6, 0, 1, 5}, {1, 9, 8, 7, 6, 5, 1, 5},
            {2, 9, 8, 7, 6, 0, 1, 5}, {2, 9, 8, 7, 6, 5, 1, 5},
            {2, 9, 8, 7, 6, 1, 0, 5}, {2, 9, 8, 7, 6, 1, 11, 5},
            {0, 9, 8, 7, 6, 1, 1, -1}, {0, 9, 8, 7, 6, 1, 1, 2001}};
        IcePads pads = new IcePads();
        for (int i = 0; i < wrong.length; i++) {
            int[] w = wrong[i];
            Checks.due("wrong fluid " + i, pads.fluid(w[0], w[1], w[2], w[3], w[4], w[5], w[6], w[7]), BAD);
        }
        Checks.due("count(1)", pads.count(1), 0);
        Checks.due("the first", pads.fluid(0, 9, 8, 7, 6, 1, 1, 5), 0);
    }

    private static void promise6HoldByKind() {
        IcePads pads = new IcePads();
        pads.fluid(0, 97, 50, 31, 7, 4, 3, 0);
        pads.fluid(1, 97, 50, 31, 7, 4, 3, 0);
        pads.fluid(2, 97, 50, 31, 7, 4, 3, 0);
        pads.fluid(2, 97, 50, 31, 7, 1, 10, 0);
        Checks.due("THIN", pads.hold(0, 0), 97);
        Checks.due("THICK", pads.hold(1, 0), 388);
        Checks.due("MIXED", pads.hold(2, 0), 116);
        Checks.due("MIXED, ten tenths", pads.hold(3, 0), 97);
    }

    private static void promise6HoldByWeather() {
        IcePads pads = new IcePads();
        pads.fluid(0, 97, 50, 31, 7, 4, 3, 0);
        pads.fluid(1, 97, 50, 31, 7, 3, 3, 0);
        pads.fluid(2, 97, 50, 31, 7, 3, 9, 0);
        int[][] want = {{97, 50, 31, 7}, {291, 150, 93, 21}, {261, 135, 83, 18}};
        int[][] wantCold = {{48, 25, 15, 3}, {144, 75, 45, 9}, {129, 67, 40, 8}};
        for (int fall = 0; fall < 4; fall++) {
            pads.weather(2 * fall, -10, fall);
            pads.weather(2 * fall + 1, -11, fall);
            for (int fluid = 0; fluid < 3; fluid++) {
                Checks.due("hold of " + fluid + " by fall " + fall, pads.hold(fluid, 2 * fall), want[fluid][fall]);
                Checks.due("in the cold, of " + fluid + " by fall " + fall,
                        pads.hold(fluid, 2 * fall + 1), wantCold[fluid][fall]);
            }
        }
    }

    private static void promise6HoldInMissingMinutes() {
        IcePads pads = new IcePads();
        pads.fluid(0, 97, 50, 31, 7, 4, 3, 0);
        pads.weather(10, -20, 0);
        pads.weather(20, 0, 2);
        Checks.due("hold(0, 9)", pads.hold(0, 9), 97);
        Checks.due("hold(0, 20)", pads.hold(0, 20), 31);
        Checks.due("hold(0, 21), by both", pads.hold(0, 21), 15);
        Checks.due("hold(0, 41), by one", pads.hold(0, 41), 31);
        Checks.due("hold(0, 51), by none", pads.hold(0, 51), 97);
        Checks.due("hold(0, 299)", pads.hold(0, 299), 97);
    }

    private static void promise6Refuses() {
        IcePads pads = new IcePads();
        pads.fluid(0, 97, 50, 31, 7, 4, 3, 0);
        Checks.due("hold(-1, 0)", pads.hold(-1, 0), BAD);
        Checks.due("hold(1, 0)", pads.hold(1, 0), BAD);
        Checks.due("hold(4, 0)", pads.hold(4, 0), BAD);
        Checks.due("hold(0, -1)", pads.hold(0, -1), BAD);
        Checks.due("hold(0, 300)", pads.hold(0, 300), BAD);
        Checks.due("trace, all refused", pads.trace(), 0);
    }

    private static void promise7FillAnd13Litres() {
        IcePads pads = new IcePads();
        pads.fluid(0, 9, 8, 7, 6, 1, 1, 5);
        pads.fluid(0, 9, 8, 7, 6, 1, 1, 7);
        Checks.due("litres(0)", pads.litres(0), 5);
        Checks.due("fill(0, 2000)", pads.fill(0, 2000), 5);
        Checks.due("fill(0, 0)", pads.fill(0, 0), 2000);
        Checks.due("litres(0)", pads.litres(0), 0);
        Checks.due("fill(0, -1)", pads.fill(0, -1), BAD);
        Checks.due("fill(0, 2001)", pads.fill(0, 2001), BAD);
        Checks.due("fill(-1, 1)", pads.fill(-1, 1), BAD);
        Checks.due("fill(2, 1)", pads.fill(2, 1), BAD);
        Checks.due("fill(4, 1)", pads.fill(4, 1), BAD);
        Checks.due("litres(0)", pads.litres(0), 0);
        Checks.due("litres(1)", pads.litres(1), 7);
        Checks.due("litres(-1)", pads.litres(-1), BAD);
        Checks.due("litres(2)", pads.litres(2), BAD);
        Checks.due("litres(4)", pads.litres(4), BAD);
    }

    private static void promise16Trace() {
        IcePads pads = new IcePads();
        pads.fluid(2, 9, 8, 7, 6, 1, 1, 5);
        pads.fluid(0, 9, 8, 7, 6, 1, 1, 5);
        pads.fluid(1, 9, 8, 7, 6, 1, 1, 5);
        pads.hold(0, 0);
        Checks.due("trace, MIXED asked", pads.trace(), 111);
        pads.hold(1, 0);
        Checks.due("trace, THIN asked too", pads.trace(), 112);
        pads.hold(2, 0);
        Checks.due("trace, THICK asked too", pads.trace(), 123);
        Checks.due("trace asked again", pads.trace(), 123);
        for (int i = 0; i < 200; i++) pads.hold(0, i);
        Checks.due("trace, MIXED asked 200 times more", pads.trace(), 123 + 200 * 111);
    }

    private static void promise16TraceIsOfHoldAlone() {
        IcePads pads = new IcePads();
        pads.fluid(2, 90, 80, 70, 60, 1, 1, 500);
        pads.jet(1, 0, 1, 0);
        pads.minutes(20);
        Checks.due("treatments", pads.count(7) > 0 ? 1 : 0, 1);
        pads.plan(2, 0);
        pads.known(3, 0);
        Checks.due("trace, hold() never called", pads.trace(), 0);
    }
}
