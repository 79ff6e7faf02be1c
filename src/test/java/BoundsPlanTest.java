/** Boundary cases of THE PLAN and of what is counted; promises 14, 15. */
public final class BoundsPlanTest {
    private static final int BAD = IcePads.BAD;
    private static final int NONE = IcePads.NONE;

    public static void main(String[] args) {
        Cases.runAll(BoundsPlanTest.class);
    }

    // ---- promise 14: plan

    static void planAsksThreeThings() {
        Cases.taken(Runs::busy, 3, "plan", 0, 0);
        Cases.taken(Runs::busy, 4, "plan", 1, 0);
        Cases.refused(Runs::busy, BAD, "plan", -1, 0);
        Cases.refused(Runs::busy, BAD, "plan", 3, 0);
    }

    static void placesAre0To4() {
        Cases.taken(Runs::full, 5, "plan", 0, 0);
        IcePads pads = ready(0, 0, 0, 0, 0);
        Cases.due(pads, 0, "plan", 1, 0);
        Cases.due(pads, 4, "plan", 1, 4);
        Cases.refused(Runs::full, BAD, "plan", 1, -1);
        Cases.refused(Runs::full, BAD, "plan", 1, 5);
    }

    static void placesAre0To4WhileNoneWaits() {
        IcePads pads = new IcePads();
        for (int i = 0; i < 5; i++) Cases.due(pads, NONE, "plan", 1, i);
        Cases.refused(Runs::fresh, BAD, "plan", 1, -1);
        Cases.refused(Runs::fresh, BAD, "plan", 1, 5);
    }

    static void sizeAndLatesAreAskedWithoutAPlace() {
        int[] any = {Integer.MIN_VALUE, -1, 0, 4, 5, Integer.MAX_VALUE};
        IcePads pads = ready(0, 0);
        for (int i : any) {
            Cases.due(pads, 2, "plan", 0, i);
            Cases.due(pads, 2, "plan", 2, i);
        }
    }

    static void aPlanOfNone() {
        Checks.due("no jet", Checks.plan(new IcePads()), "0: = 0");
    }

    static void aPlanOfOne() {
        Checks.due("one jet", Checks.plan(ready(0)), "1: 0 = 0");
        Cases.due(ready(0), NONE, "plan", 1, 1);
    }

    static void thePlacesBehindTheLastJetAreEmpty() {
        IcePads pads = ready(0, 0, 0);
        Cases.due(pads, 2, "plan", 1, 2);
        Cases.due(pads, NONE, "plan", 1, 3);
        Cases.due(pads, NONE, "plan", 1, 4);
    }

    static void aPlanOfFive() {
        Checks.due("five jets", Checks.plan(ready(0, 0, 0, 0, 0)), "5: 0 1 2 3 4 = 20");
    }

    static void theSixthJetIsNotInThePlan() {
        Checks.due("six jets", Checks.plan(ready(50, 40, 30, 20, 10, 0)), "5: 4 3 2 1 0 = 0");
    }

    static void twelveJetsWaitAndFiveAreInThePlan() {
        IcePads pads = Runs.plenty();
        for (int i = 0; i < 12; i++) pads.jet(1, 0, 1, 0);
        Checks.due("twelve jets", Checks.plan(pads), "5: 0 1 2 3 4 = 20");
    }

    static void aJetOnAPadIsNotInThePlan() {
        IcePads pads = ready(0, 1, 1, 1, 1, 1);
        pads.minutes(1);
        Checks.due("0 is on the pad", Checks.plan(pads), "5: 1 2 3 4 5 = 20");
    }

    static void aJetThatIsGoneIsNotInThePlan() {
        IcePads pads = ready(0, 50, 50, 50, 50, 50);
        pads.minutes(3);
        Checks.due("0 is GONE", Checks.plan(pads), "5: 1 2 3 4 5 = 20");
    }

    static void aJetThatWasTurnedBackIsInThePlan() {
        IcePads pads = Runs.thin(2, 2000);
        pads.jet(1, 0, 1, 0);
        pads.minutes(2);
        Checks.due("on the pad", Checks.plan(pads), "0: = 0");
        pads.minutes(1);
        Checks.due("turned back", Checks.plan(pads), "1: 0 = 3");
    }

    static void lateOfOneTurnedBackIsFromItsFirstReady() {
        IcePads pads = Runs.thin(2, 10);
        pads.jet(1, 0, 20, 0);
        pads.minutes(10);
        Checks.due("READY in 22, first in 0", Checks.plan(pads), "1: 0 = 22");
        Runs.to(pads, 22);
        Checks.due("in 22", Checks.plan(pads), "1: 0 = 22");
        pads.minutes(1);
        Checks.due("in 23", Checks.plan(pads), "1: 0 = 23");
    }

    static void onlyJetsThatAreGoneAndOnPads() {
        IcePads pads = ready(0, 2);
        pads.minutes(3);
        Checks.due("one is GONE, one on the pad", Checks.plan(pads), "0: = 0");
        for (int i = 0; i < 5; i++) Cases.due(pads, NONE, "plan", 1, i);
    }

    static void thePlanBeginsNow() {
        IcePads pads = Runs.thin(100, 0);
        pads.jet(1, 3, 1, 0);
        pads.minutes(3);
        Checks.due("NOW it is READY", Checks.plan(pads), "1: 0 = 0");
        pads.minutes(1);
        Checks.due("one MINUTE ago", Checks.plan(pads), "1: 0 = 1");
    }

    static void thePlanOfTheLastMinute() {
        IcePads pads = Runs.thin(100, 0);
        pads.jet(1, 0, 1, 0);
        pads.jet(1, 299, 1, 0);
        Runs.to(pads, 299);
        Checks.due("in 299", Checks.plan(pads), "2: 0 1 = " + (299 + 2));
    }

    static void theNextBeginsAsSoonAsTheOneBeforeIsDone() {
        Checks.due("done and READY at once", Checks.plan(ready(0, 2)), "2: 0 1 = 0");
        Checks.due("READY one MINUTE before", Checks.plan(ready(0, 1)), "2: 0 1 = 1");
        Checks.due("READY one MINUTE behind", Checks.plan(ready(0, 3, 5)), "3: 0 1 2 = 0");
        Checks.due("and the one behind that", Checks.plan(ready(0, 3, 4)), "3: 0 1 2 = 1");
    }

    static void eachTakesTwoMinutesForEachSize() {
        for (int size = 1; size <= 5; size++) {
            IcePads pads = Runs.plenty();
            pads.jet(size, 0, 1, 0);
            pads.jet(size, 0, 20, 0);
            Checks.due("two of SIZE " + size, Checks.plan(pads), "2: 0 1 = " + 2 * size);
        }
    }

    static void leastLatesGoBeforeLeastNumbers() {
        IcePads pads = Runs.plenty();
        pads.jet(2, 0, 1, 0);
        pads.jet(1, 0, 1, 0);
        Checks.due("the smaller one first", Checks.plan(pads), "2: 1 0 = 2");
    }

    static void leastLatesGoBeforeWhatIsReadyFirst() {
        IcePads pads = Runs.plenty();
        pads.jet(5, 0, 1, 0);
        pads.jet(1, 3, 1, 0);
        Checks.due("the smaller one first", Checks.plan(pads), "2: 1 0 = 5");
        IcePads other = Runs.plenty();
        other.jet(5, 0, 1, 0);
        other.jet(1, 5, 1, 0);
        Checks.due("no longer", Checks.plan(other), "2: 0 1 = 5");
    }

    static void ofLikeOrdersTheFirstByNumbers() {
        IcePads pads = Runs.plenty();
        pads.jet(2, 4, 1, 0);
        pads.jet(3, 3, 1, 0);
        Checks.due("5 either way", Checks.plan(pads), "2: 0 1 = 5");
        IcePads other = Runs.plenty();
        other.jet(3, 3, 1, 0);
        other.jet(2, 4, 1, 0);
        Checks.due("5 either way", Checks.plan(other), "2: 0 1 = 5");
    }

    static void ofLikeOrdersTheFirstByNumbersBehindTheFirstPlace() {
        IcePads pads = Runs.plenty();
        pads.jet(2, 4, 1, 0);
        pads.jet(1, 0, 1, 0);
        pads.jet(3, 3, 1, 0);
        Checks.due("5 either way", Checks.plan(pads), "3: 1 0 2 = 5");
    }

    static void thePlanIsForOnePadWithEnoughOfAll() {
        IcePads pads = Runs.thin(0, 0);
        pads.set(0, 3);
        pads.set(1, 10);
        for (int i = 0; i < 5; i++) pads.jet(5, 0, 20, 0);
        Checks.due("five large ones", Checks.plan(pads), "5: 0 1 2 3 4 = 100");
    }

    static void thePlanLeavesAJetOnAPadOutOfItsTimes() {
        IcePads pads = Runs.plenty();
        pads.jet(5, 0, 1, 0);
        pads.jet(1, 1, 1, 0);
        pads.minutes(1);
        Checks.due("from NOW on", Checks.plan(pads), "1: 1 = 0");
    }

    // ---- promise 15: count

    static void countAsksTenThings() {
        Cases.taken(Runs::busy, 12, "count", 0);
        Cases.taken(Runs::busy, 0, "count", 9);
        Cases.refused(Runs::busy, BAD, "count", -1);
        Cases.refused(Runs::busy, BAD, "count", 10);
    }

    static void countsOfNothing() {
        Checks.due("counts", Checks.counts(new IcePads()), "0 0 1 0 0 0 0 0 0 0");
    }

    static void countsOfAllPlaces() {
        Checks.due("counts", Checks.counts(allPlaces()), "0 4 3 12 12 0 0 0 0 0");
    }

    static void countsOfAllThatFlew() {
        IcePads pads = allPlaces();
        Runs.to(pads, 60);
        Checks.due("counts", Checks.counts(pads), "60 4 3 12 0 12 0 12 0 36");
    }

    static void countsOfOneOfEach() {
        Checks.due("counts", Checks.counts(Runs.busy()), "12 3 2 5 3 1 15 3 1 0");
    }

    static void countsInTheLastMinute() {
        Cases.taken(Runs::last, 299, "count", 0);
    }

    static void treatmentsOfOneJetAreCountedEach() {
        IcePads pads = Runs.thin(2, 2000);
        pads.jet(1, 0, 1, 0);
        pads.minutes(1);
        Checks.due("one begun", pads.count(7) + " " + pads.count(8), "1 0");
        pads.minutes(2);
        Checks.due("one turned back", pads.count(7) + " " + pads.count(8), "1 1");
        pads.minutes(1);
        Checks.due("two begun", pads.count(7) + " " + pads.count(8), "2 1");
    }

    static void turnsBackOfJetsThatFlewLaterStayCounted() {
        IcePads pads = Runs.thin(3, 2000);
        pads.weather(0, -11, 0);
        for (int minute = 1; minute < 10; minute++) pads.weather(minute, 0, 0);
        pads.jet(1, 0, 1, 0);
        pads.minutes(10);
        Checks.due("flew by the second", Checks.counts(pads), "10 1 1 1 0 1 0 2 1 3");
    }

    static void lateOfJetsThatWaitIsNotCounted() {
        IcePads pads = Runs.thin(100, 10);
        pads.jet(1, 0, 1, 0);
        pads.jet(1, 0, 1, 0);
        pads.minutes(50);
        Checks.due("one is GONE, one WAITS", Checks.counts(pads), "50 1 1 2 1 1 0 1 0 0");
    }

    /** JETS of SIZE 1, READY in these MINUTES. */
    private static IcePads ready(int... minutes) {
        IcePads pads = Runs.plenty();
        for (int minute : minutes) pads.jet(1, minute, 1, 0);
        return pads;
    }

    /** All FLUIDS, all PADS, and all JETS, READY at once; three begin in every second MINUTE. */
    private static IcePads allPlaces() {
        IcePads pads = new IcePads();
        pads.set(0, 3);
        for (int i = 0; i < 4; i++) pads.fluid(0, 100, 100, 100, 100, 1, 1, 2000);
        for (int i = 0; i < 12; i++) pads.jet(1, 0, 1, i % 4);
        return pads;
    }
}
