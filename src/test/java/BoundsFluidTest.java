/** Boundary cases of FLUIDS, their HOLD, their LITRES and THE TRACE; promises 5, 6, 7, 13, 16. */
public final class BoundsFluidTest {
    private static final int BAD = IcePads.BAD;
    private static final int FULL = IcePads.FULL;
    private static final int LEAST = Integer.MIN_VALUE;
    private static final int MOST = Integer.MAX_VALUE;

    public static void main(String[] args) {
        Cases.runAll(BoundsFluidTest.class);
    }

    // ---- promise 5: fluid

    static void kindsAre0To2() {
        for (int kind = 0; kind <= 2; kind++) Cases.taken(Runs::busy, 3, "fluid", kind, 9, 8, 7, 6, 1, 1, 5);
        Cases.refused(Runs::busy, BAD, "fluid", -1, 9, 8, 7, 6, 1, 1, 5);
        Cases.refused(Runs::busy, BAD, "fluid", 3, 9, 8, 7, 6, 1, 1, 5);
    }

    static void spansAreAtMost100() {
        Cases.taken(Runs::busy, 3, "fluid", 0, 100, 100, 100, 100, 1, 1, 5);
        Cases.refused(Runs::busy, BAD, "fluid", 0, 101, 100, 100, 100, 1, 1, 5);
        Cases.refused(Runs::busy, BAD, "fluid", 0, 101, 101, 101, 101, 1, 1, 5);
    }

    static void spansAreAtLeast0() {
        Cases.taken(Runs::busy, 3, "fluid", 0, 0, 0, 0, 0, 1, 1, 5);
        Cases.refused(Runs::busy, BAD, "fluid", 0, 0, 0, 0, -1, 1, 1, 5);
        Cases.refused(Runs::busy, BAD, "fluid", 0, 0, 0, -1, -1, 1, 1, 5);
        Cases.refused(Runs::busy, BAD, "fluid", 0, 0, -1, -1, -1, 1, 1, 5);
        Cases.refused(Runs::busy, BAD, "fluid", 0, -1, -1, -1, -1, 1, 1, 5);
    }

    static void theSecondSpanIsNotAboveTheFirst() {
        Cases.taken(Runs::busy, 3, "fluid", 0, 50, 50, 10, 5, 1, 1, 5);
        Cases.refused(Runs::busy, BAD, "fluid", 0, 50, 51, 10, 5, 1, 1, 5);
    }

    static void theThirdSpanIsNotAboveTheSecond() {
        Cases.taken(Runs::busy, 3, "fluid", 0, 50, 40, 40, 5, 1, 1, 5);
        Cases.refused(Runs::busy, BAD, "fluid", 0, 50, 40, 41, 5, 1, 1, 5);
    }

    static void theFourthSpanIsNotAboveTheThird() {
        Cases.taken(Runs::busy, 3, "fluid", 0, 50, 40, 30, 30, 1, 1, 5);
        Cases.refused(Runs::busy, BAD, "fluid", 0, 50, 40, 30, 31, 1, 1, 5);
    }

    static void timesOfThickAre1To4() {
        Cases.taken(Runs::busy, 3, "fluid", 1, 9, 8, 7, 6, 1, 1, 5);
        Cases.taken(Runs::busy, 3, "fluid", 1, 9, 8, 7, 6, 4, 1, 5);
        Cases.refused(Runs::busy, BAD, "fluid", 1, 9, 8, 7, 6, 0, 1, 5);
        Cases.refused(Runs::busy, BAD, "fluid", 1, 9, 8, 7, 6, 5, 1, 5);
    }

    static void timesOfMixedAre1To4() {
        Cases.taken(Runs::busy, 3, "fluid", 2, 9, 8, 7, 6, 1, 1, 5);
        Cases.taken(Runs::busy, 3, "fluid", 2, 9, 8, 7, 6, 4, 1, 5);
        Cases.refused(Runs::busy, BAD, "fluid", 2, 9, 8, 7, 6, 0, 1, 5);
        Cases.refused(Runs::busy, BAD, "fluid", 2, 9, 8, 7, 6, 5, 1, 5);
    }

    static void timesOfThinAreNotLookedAt() {
        int[] any = {LEAST, -1, 0, 5, MOST};
        for (int times : any) {
            IcePads pads = new IcePads();
            Cases.due(pads, 0, "fluid", 0, 9, 8, 7, 6, times, 1, 5);
            Cases.due(pads, 9, "hold", 0, 0);
        }
    }

    static void partsOfMixedAre1To10() {
        Cases.taken(Runs::busy, 3, "fluid", 2, 9, 8, 7, 6, 1, 1, 5);
        Cases.taken(Runs::busy, 3, "fluid", 2, 9, 8, 7, 6, 1, 10, 5);
        Cases.refused(Runs::busy, BAD, "fluid", 2, 9, 8, 7, 6, 1, 0, 5);
        Cases.refused(Runs::busy, BAD, "fluid", 2, 9, 8, 7, 6, 1, 11, 5);
    }

    static void partsOfThinAndThickAreNotLookedAt() {
        int[] any = {LEAST, -1, 0, 11, MOST};
        for (int parts : any) {
            IcePads pads = new IcePads();
            Cases.due(pads, 0, "fluid", 0, 9, 8, 7, 6, 2, parts, 5);
            Cases.due(pads, 1, "fluid", 1, 9, 8, 7, 6, 2, parts, 5);
            Cases.due(pads, 9, "hold", 0, 0);
            Cases.due(pads, 18, "hold", 1, 0);
        }
    }

    static void litresOfANewFluidAre0To2000() {
        for (int kind = 0; kind <= 2; kind++) {
            IcePads pads = new IcePads();
            Cases.due(pads, 0, "fluid", kind, 9, 8, 7, 6, 1, 1, 0);
            Cases.due(pads, 1, "fluid", kind, 9, 8, 7, 6, 1, 1, 2000);
            Cases.due(pads, 0, "litres", 0);
            Cases.due(pads, 2000, "litres", 1);
            Cases.refused(Runs::busy, BAD, "fluid", kind, 9, 8, 7, 6, 1, 1, -1);
            Cases.refused(Runs::busy, BAD, "fluid", kind, 9, 8, 7, 6, 1, 1, 2001);
        }
    }

    static void theFourthFluidIsTheLast() {
        Cases.taken(Runs::busy, 3, "fluid", 0, 9, 8, 7, 6, 1, 1, 5);
        Cases.refused(Runs::full, FULL, "fluid", 0, 9, 8, 7, 6, 1, 1, 5);
    }

    static void fluidsHaveNumbers0To3() {
        IcePads pads = new IcePads();
        for (int number = 0; number < 4; number++) {
            Cases.due(pads, number, "count", 1);
            Cases.due(pads, number, "fluid", 0, 9, 8, 7, 6, 1, 1, number);
        }
        Cases.due(pads, 4, "count", 1);
        for (int number = 0; number < 4; number++) Cases.due(pads, number, "litres", number);
    }

    static void aRefusedFluidTakesNoNumber() {
        IcePads pads = new IcePads();
        Cases.due(pads, BAD, "fluid", 0, 9, 8, 7, 6, 1, 1, 2001);
        Cases.due(pads, 0, "fluid", 0, 9, 8, 7, 6, 1, 1, 2000);
    }

    static void anEmptyFluidKeepsItsPlace() {
        IcePads pads = new IcePads();
        for (int i = 0; i < 4; i++) pads.fluid(0, 9, 8, 7, 6, 1, 1, 0);
        Cases.due(pads, FULL, "fluid", 0, 9, 8, 7, 6, 1, 1, 0);
    }

    // ---- promise 6: hold

    static void noHoldWhileThereIsNoFluid() {
        Cases.refused(Runs::fresh, BAD, "hold", 0, 0);
    }

    static void holdOfFluidsThatAreThere() {
        Cases.taken(Runs::busy, 9, "hold", 0, 0);
        Cases.taken(Runs::busy, 45, "hold", 2, 0);
        Cases.refused(Runs::busy, BAD, "hold", -1, 0);
        Cases.refused(Runs::busy, BAD, "hold", 3, 0);
        Cases.taken(Runs::full, 2, "hold", 3, 0);
        Cases.refused(Runs::full, BAD, "hold", 4, 0);
    }

    static void holdInMinutes0To299() {
        Cases.taken(Runs::busy, 9, "hold", 0, 0);
        Cases.taken(Runs::busy, 12, "hold", 0, 299);
        Cases.refused(Runs::busy, BAD, "hold", 0, -1);
        Cases.refused(Runs::busy, BAD, "hold", 0, 300);
    }

    static void holdInMinutesAheadOfNow() {
        Cases.taken(Runs::last, 9, "hold", 0, 0);
        Cases.taken(Runs::last, 6, "hold", 0, 4);
    }

    static void thinHoldsItsSpanByFall() {
        IcePads pads = withKinds(97, 50, 31, 7);
        int[] want = {97, 50, 31, 7};
        for (int fall = 0; fall < 4; fall++) {
            pads.weather(fall, -10, fall);
            Cases.due(pads, want[fall], "hold", 0, fall);
        }
    }

    static void thinHoldsAllOfItAtMinus10() {
        Checks.due("hold at -10", thinAt(-10, 40), 40);
    }

    static void thinHoldsHalfOfItBelowMinus10() {
        Checks.due("hold at -11", thinAt(-11, 40), 20);
        Checks.due("hold at -30", thinAt(-30, 40), 20);
    }

    static void thinHoldsAllOfItAbove0() {
        Checks.due("hold at 5", thinAt(5, 40), 40);
    }

    static void halfASpanIsRoundedDown() {
        Checks.due("half of 99", thinAt(-11, 99), 49);
        Checks.due("half of 1", thinAt(-11, 1), 0);
        Checks.due("half of 0", thinAt(-11, 0), 0);
        Checks.due("half of 100", thinAt(-11, 100), 50);
    }

    static void thickHoldsOnceToFourTimesAsLong() {
        for (int times = 1; times <= 4; times++) {
            IcePads pads = new IcePads();
            pads.fluid(1, 100, 7, 7, 7, times, 1, 0);
            Cases.due(pads, 100 * times, "hold", 0, 0);
        }
    }

    static void thickMultipliesWhatWasRounded() {
        IcePads pads = withKinds(31, 31, 31, 31);
        pads.weather(0, -11, 0);
        Cases.due(pads, 15 * 4, "hold", 1, 0);
    }

    static void mixedHoldsOneToTenTenths() {
        for (int parts = 1; parts <= 10; parts++) {
            IcePads pads = new IcePads();
            pads.fluid(2, 100, 7, 7, 7, 4, parts, 0);
            Cases.due(pads, 40 * parts, "hold", 0, 0);
        }
    }

    static void tenthsAreRoundedDown() {
        int[][] spanPartsWant = {{9, 1, 0}, {10, 1, 1}, {19, 1, 1}, {11, 9, 9}, {99, 9, 89}, {1, 10, 1}, {0, 10, 0}};
        for (int[] row : spanPartsWant) {
            IcePads pads = new IcePads();
            pads.fluid(2, row[0], 0, 0, 0, 1, row[1], 0);
            Cases.due(pads, row[2], "hold", 0, 0);
        }
    }

    static void mixedTakesTenthsOfWhatWasMultiplied() {
        IcePads pads = new IcePads();
        pads.fluid(2, 9, 9, 9, 9, 3, 5, 0);
        Cases.due(pads, 13, "hold", 0, 0);
        pads.weather(0, -11, 0);
        Cases.due(pads, 6, "hold", 0, 0);
    }

    static void holdOfAMissingMinuteIsByWhatIsKnown() {
        IcePads pads = withKinds(97, 50, 31, 7);
        pads.weather(20, -11, 0);
        pads.weather(21, -10, 3);
        Cases.due(pads, 97, "hold", 0, 19);
        Cases.due(pads, 48, "hold", 0, 20);
        Cases.due(pads, 7, "hold", 0, 21);
        Cases.due(pads, 3, "hold", 0, 50);
        Cases.due(pads, 7, "hold", 0, 51);
        Cases.due(pads, 97, "hold", 0, 52);
    }

    // ---- promise 7: fill, promise 13: litres

    static void noFillWhileThereIsNoFluid() {
        Cases.refused(Runs::fresh, BAD, "fill", 0, 10);
    }

    static void fillOfFluidsThatAreThere() {
        Cases.taken(Runs::busy, 580, "fill", 0, 5);
        Cases.taken(Runs::busy, 650, "fill", 2, 5);
        Cases.refused(Runs::busy, BAD, "fill", -1, 5);
        Cases.refused(Runs::busy, BAD, "fill", 3, 5);
        Cases.taken(Runs::full, 60, "fill", 3, 5);
        Cases.refused(Runs::full, BAD, "fill", 4, 5);
    }

    static void fillsTo0AtLeast() {
        IcePads pads = Runs.busy();
        Cases.due(pads, 49, "fill", 1, 0);
        Cases.due(pads, 0, "litres", 1);
        Cases.refused(Runs::busy, BAD, "fill", 1, -1);
    }

    static void fillsTo2000AtMost() {
        IcePads pads = Runs.busy();
        Cases.due(pads, 49, "fill", 1, 2000);
        Cases.due(pads, 2000, "litres", 1);
        Cases.refused(Runs::busy, BAD, "fill", 1, 2001);
    }

    static void fillAddsNothingToWhatWasThere() {
        IcePads pads = Runs.busy();
        pads.fill(1, 2000);
        Cases.due(pads, 2000, "fill", 1, 2000);
        Cases.due(pads, 2000, "fill", 1, 1);
        Cases.due(pads, 1, "litres", 1);
    }

    static void fillsOneFluidAlone() {
        IcePads pads = Runs.busy();
        pads.fill(1, 2000);
        Cases.due(pads, 580, "litres", 0);
        Cases.due(pads, 650, "litres", 2);
    }

    static void noLitresWhileThereIsNoFluid() {
        Cases.refused(Runs::fresh, BAD, "litres", 0);
    }

    static void litresOfFluidsThatAreThere() {
        Cases.taken(Runs::busy, 580, "litres", 0);
        Cases.taken(Runs::busy, 650, "litres", 2);
        Cases.refused(Runs::busy, BAD, "litres", -1);
        Cases.refused(Runs::busy, BAD, "litres", 3);
        Cases.taken(Runs::full, 60, "litres", 3);
        Cases.refused(Runs::full, BAD, "litres", 4);
    }

    static void litresGoDownTo0() {
        IcePads pads = Runs.thin(100, 50);
        pads.jet(5, 0, 1, 0);
        pads.minutes(1);
        Cases.due(pads, 0, "litres", 0);
    }

    // ---- promise 16: trace

    static void traceIs0AtFirst() {
        Cases.taken(Runs::fresh, 0, "trace");
    }

    static void eachKindBringsItsOwnAndThoseOverIt() {
        int[] want = {1, 11, 111};
        for (int kind = 0; kind < 3; kind++) {
            IcePads pads = withKinds(9, 8, 7, 6);
            pads.hold(kind, 0);
            Cases.due(pads, want[kind], "trace");
            pads.hold(kind, 299);
            Cases.due(pads, 2 * want[kind], "trace");
        }
    }

    static void aHoldOf0IsTracedToo() {
        IcePads pads = withKinds(0, 0, 0, 0);
        Cases.due(pads, 0, "hold", 2, 0);
        Cases.due(pads, 111, "trace");
    }

    static void aRefusedHoldIsNotTraced() {
        IcePads pads = withKinds(9, 8, 7, 6);
        pads.hold(2, 300);
        pads.hold(2, -1);
        pads.hold(3, 0);
        pads.hold(-1, 0);
        Cases.due(pads, 0, "trace");
    }

    static void noOtherCallIsTraced() {
        IcePads pads = Runs.busy();
        View.now(pads);
        pads.minutes(60);
        Cases.due(pads, 111, "trace");
    }

    private static IcePads withKinds(int a, int b, int c, int d) {
        IcePads pads = new IcePads();
        for (int kind = 0; kind < 3; kind++) pads.fluid(kind, a, b, c, d, 4, 9, 100);
        return pads;
    }

    private static int thinAt(int cold, int span) {
        IcePads pads = Runs.thin(span, 0);
        pads.weather(0, cold, 0);
        return pads.hold(0, 0);
    }
}
