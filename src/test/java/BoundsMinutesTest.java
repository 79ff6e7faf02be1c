/** Boundary cases of how a MINUTE goes, of LATE, and of promise 10. */
public final class BoundsMinutesTest {
    private static final int BAD = IcePads.BAD;
    private static final int STATE = IcePads.STATE;
    private static final int NONE = IcePads.NONE;

    public static void main(String[] args) {
        Cases.runAll(BoundsMinutesTest.class);
    }

    // ---- promise 10: minutes

    static void oneMinuteIsTheLeast() {
        Cases.taken(Runs::busy, 13, "minutes", 1);
        Cases.refused(Runs::busy, BAD, "minutes", 0);
        Cases.refused(Runs::busy, BAD, "minutes", -1);
    }

    static void sixtyMinutesAreTheMost() {
        Cases.taken(Runs::busy, 72, "minutes", 60);
        Cases.refused(Runs::busy, BAD, "minutes", 61);
    }

    static void nowIs299AtMost() {
        Cases.taken(() -> at(239), 299, "minutes", 60);
        Cases.refused(() -> at(240), STATE, "minutes", 60);
        Cases.taken(() -> at(240), 299, "minutes", 59);
        Cases.taken(() -> at(298), 299, "minutes", 1);
        Cases.refused(() -> at(298), STATE, "minutes", 2);
    }

    static void noMinuteGoesInTheLastOne() {
        Cases.refused(Runs::last, STATE, "minutes", 1);
        Cases.refused(Runs::last, STATE, "minutes", 60);
    }

    static void manyMinutesGoAsOneByOne() {
        IcePads atOnce = Runs.full();
        IcePads oneByOne = Runs.full();
        atOnce.minutes(60);
        for (int i = 0; i < 60; i++) oneByOne.minutes(1);
        Checks.due("60 at once", View.now(atOnce), View.now(oneByOne));
    }

    static void theLastMinuteItselfNeverGoes() {
        IcePads pads = Runs.plenty();
        pads.set(0, 2);
        pads.jet(1, 298, 1, 0);
        pads.jet(1, 299, 1, 0);
        Runs.to(pads, 299);
        Checks.due("READY in 298", Checks.about(pads, 0), "1 0 298 298 0 -900 -900");
        Checks.due("READY in 299", Checks.about(pads, 1), "0 -900 -900 299 0 -900 -900");
    }

    static void fliesBehindTheLastMinute() {
        IcePads pads = Runs.plenty();
        pads.jet(1, 296, 20, 0);
        Runs.to(pads, 299);
        Checks.due("flew in 318", Checks.about(pads, 0), "2 -900 296 296 0 318 0");
    }

    static void isReadyAgainBehindTheLastMinute() {
        IcePads pads = Runs.thin(0, 2000);
        pads.jet(1, 296, 20, 0);
        Runs.to(pads, 299);
        Checks.due("READY in 318", Checks.about(pads, 0), "0 -900 296 318 1 -900 -900");
    }

    // ---- (1) THE DRAIN

    static void drainIs0AtFirstAndStaysSo() {
        IcePads pads = new IcePads();
        pads.set(2, 50);
        Cases.due(pads, 0, "count", 6);
        pads.minutes(60);
        Cases.due(pads, 0, "count", 6);
    }

    static void drainHasRateLessAnd0AtLeast() {
        Checks.due("16 less 15", drainAfterRate(15), 1);
        Checks.due("16 less 16", drainAfterRate(16), 0);
        Checks.due("16 less 17", drainAfterRate(17), 0);
        Checks.due("16 less 50", drainAfterRate(50), 0);
    }

    static void drainKeepsAllByRate0() {
        Checks.due("16 less 0", drainAfterRate(0), 16);
        IcePads pads = Runs.plenty();
        pads.set(2, 0);
        pads.jet(2, 0, 1, 0);
        Runs.to(pads, 299);
        Cases.due(pads, 16, "count", 6);
    }

    static void drainLosesBeforeAJetBegins() {
        Checks.due("room by a rate of 8", secondStart(16, 8), 1);
        Checks.due("too little by a rate of 7", secondStart(16, 7), 2);
    }

    // ---- (2) the end of a TREATMENT

    static void aTreatmentTakesTwoMinutesForEachSize() {
        for (int size = 1; size <= 5; size++) {
            IcePads pads = Runs.plenty();
            pads.jet(size, 3, 1, 0);
            Runs.to(pads, 3 + 2 * size);
            Cases.due(pads, 0, "on", 0);
            Cases.due(pads, 1, "about", 0, 0);
            pads.minutes(1);
            Cases.due(pads, NONE, "on", 0);
            Cases.due(pads, 2, "about", 0, 0);
        }
    }

    static void fliesIfItIsJustHeld() {
        Checks.due("SIZE 1, ROLL 1, HOLD 3", ended(3, 1, 1), "2 -900 10 10 0 13 0");
        Checks.due("SIZE 5, ROLL 20, HOLD 30", ended(30, 5, 20), "2 -900 10 10 0 40 0");
    }

    static void isTurnedBackIfOneMinuteIsNotHeld() {
        Checks.due("SIZE 1, ROLL 1, HOLD 2", ended(2, 1, 1), "0 -900 10 13 1 -900 -900");
        Checks.due("SIZE 5, ROLL 20, HOLD 29", ended(29, 5, 20), "0 -900 10 40 1 -900 -900");
    }

    static void neverFliesByAHoldOf0() {
        IcePads pads = Runs.thin(0, 2000);
        pads.jet(1, 0, 1, 0);
        Runs.to(pads, 299);
        Cases.due(pads, 0, "count", 5);
        Cases.due(pads, 99, "count", 8);
    }

    static void holdIsByTheColdOfTheStart() {
        Checks.due("half of 46 is held", endedIn(-11, 46), "2 -900 10 10 0 33 0");
        Checks.due("half of 45 is not", endedIn(-11, 45), "0 -900 10 33 1 -900 -900");
        Checks.due("at -10 all of 23 is", endedIn(-10, 23), "2 -900 10 10 0 33 0");
    }

    static void holdIsByWhatIsKnownInTheStart() {
        IcePads pads = new IcePads();
        pads.fluid(0, 3, 3, 3, 2, 1, 1, 2000);
        pads.weather(10, 0, 3);
        pads.jet(1, 40, 1, 0);
        pads.jet(1, 41, 1, 0);
        pads.set(0, 2);
        Runs.to(pads, 44);
        Checks.due("30 MINUTES behind the FALL", Checks.about(pads, 0), "1 0 43 43 1 -900 -900");
        Checks.due("31 MINUTES behind it", Checks.about(pads, 1), "2 -900 41 41 0 44 0");
    }

    static void weatherBehindTheStartChangesNoHold() {
        IcePads pads = Runs.thin(3, 2000);
        pads.jet(1, 0, 1, 0);
        pads.minutes(1);
        for (int minute = 1; minute < 10; minute++) pads.weather(minute, -30, 3);
        pads.minutes(2);
        Checks.due("held", Checks.about(pads, 0), "2 -900 0 0 0 3 0");
    }

    static void turnedBackByRoll1BeginsInTheNextMinute() {
        IcePads pads = Runs.thin(2, 2000);
        pads.jet(1, 0, 1, 0);
        pads.minutes(3);
        Checks.due("READY in 3", Checks.about(pads, 0), "0 -900 0 3 1 -900 -900");
        Cases.due(pads, NONE, "on", 0);
        pads.minutes(1);
        Checks.due("begun in 3", Checks.about(pads, 0), "1 0 3 3 1 -900 -900");
    }

    static void turnedBackByRoll20WaitsSoLong() {
        IcePads pads = Runs.thin(2, 2000);
        pads.jet(1, 0, 20, 0);
        Runs.to(pads, 22);
        Checks.due("READY in 22", Checks.about(pads, 0), "0 -900 0 22 1 -900 -900");
        pads.minutes(1);
        Checks.due("begun in 22", Checks.about(pads, 0), "1 0 22 22 1 -900 -900");
    }

    static void turnedBackPaysAgain() {
        IcePads pads = Runs.thin(2, 29);
        pads.set(2, 0);
        pads.jet(1, 0, 1, 0);
        pads.minutes(60);
        Checks.due("twice", Checks.about(pads, 0), "0 -900 3 6 2 -900 -900");
        Cases.due(pads, 9, "litres", 0);
        Cases.due(pads, 16, "count", 6);
    }

    static void turnedBackIsInTurnByWhatItIsReadyNow() {
        Checks.due("one READY in 5 goes first", startsBehindTurnedBack(5), "14 12");
        Checks.due("of like ones the least number", startsBehindTurnedBack(6), "12 14");
        Checks.due("one READY in 7 goes behind it", startsBehindTurnedBack(7), "12 14");
    }

    // ---- (3) a PAD that is free

    static void beginsInTheMinuteInWhichItIsReady() {
        IcePads pads = Runs.plenty();
        pads.jet(1, 10, 1, 0);
        Runs.to(pads, 10);
        Cases.due(pads, 0, "about", 0, 0);
        pads.minutes(1);
        Cases.due(pads, 10, "about", 0, 2);
    }

    static void beginsInTheFirstMinute() {
        IcePads pads = Runs.plenty();
        pads.jet(1, 0, 1, 0);
        pads.minutes(1);
        Checks.due("begun in 0", Checks.about(pads, 0), "1 0 0 0 0 -900 -900");
    }

    static void beginsNotBeforeAPadIsFree() {
        IcePads pads = Runs.plenty();
        pads.jet(2, 0, 1, 0);
        pads.jet(1, 0, 1, 0);
        pads.minutes(4);
        Cases.due(pads, NONE, "about", 1, 2);
        pads.minutes(1);
        Cases.due(pads, 4, "about", 1, 2);
    }

    static void thatWhichIsReadyFirstBegins() {
        Checks.due("READY in 1, 2", startsOf(1, 2), "4 6");
        Checks.due("READY in 2, 1", startsOf(2, 1), "6 4");
    }

    static void ofThoseReadyAtOnceTheLeastNumberBegins() {
        Checks.due("READY in 1, 1", startsOf(1, 1), "4 6");
    }

    static void aJetNeedsTenLitresForEachSize() {
        for (int size = 1; size <= 5; size++) {
            Checks.due("enough for " + size, begunBy(size, 10 * size, 1000), 1);
            Checks.due("one too few for " + size, begunBy(size, 10 * size - 1, 1000), 0);
        }
    }

    static void theDrainHasItsLimitAtMost() {
        for (int size = 2; size <= 5; size++) {
            Checks.due("room for " + size, begunBy(size, 2000, 8 * size), 1);
            Checks.due("one too little for " + size, begunBy(size, 2000, 8 * size - 1), 0);
        }
        Checks.due("room for 1 by the least LIMIT", begunBy(1, 2000, 10), 1);
    }

    static void theSecondPadFindsWhatTheFirstLeft() {
        Checks.due("litres for both", begunByTwo(30, 1000), 2);
        Checks.due("one litre too few", begunByTwo(29, 1000), 1);
        Checks.due("room for both", begunByTwo(2000, 24), 2);
        Checks.due("too little room by one", begunByTwo(2000, 23), 1);
    }

    static void nothingBeginsWhileTheDrainIsAboveALowerLimit() {
        IcePads pads = Runs.plenty();
        pads.set(0, 2);
        pads.jet(5, 0, 1, 0);
        pads.jet(1, 1, 1, 0);
        pads.minutes(1);
        pads.set(1, 10);
        pads.minutes(7);
        Checks.due("drain, start", pads.count(6) + " " + pads.about(1, 2), "5 -900");
        pads.minutes(1);
        Checks.due("drain, start", pads.count(6) + " " + pads.about(1, 2), "8 8");
    }

    static void oneThatMayNotBeginHoldsUpNoOther() {
        IcePads pads = Runs.thin(100, 49);
        pads.jet(5, 0, 1, 0);
        pads.jet(4, 1, 1, 0);
        pads.minutes(2);
        Checks.due("starts", pads.about(0, 2) + " " + pads.about(1, 2), "-900 1");
        Cases.due(pads, 9, "litres", 0);
    }

    static void aPadThatFindsNoneStaysFree() {
        IcePads pads = Runs.plenty();
        pads.minutes(60);
        Cases.due(pads, NONE, "on", 0);
        Cases.due(pads, 0, "count", 7);
    }

    static void eachPadTakesOneInAMinute() {
        IcePads pads = Runs.plenty();
        pads.set(0, 3);
        for (int i = 0; i < 4; i++) pads.jet(1, 0, 1, 0);
        pads.minutes(1);
        Checks.due("on pads", pads.on(0) + " " + pads.on(1) + " " + pads.on(2), "0 1 2");
        Cases.due(pads, 0, "about", 3, 0);
    }

    static void thePadsThatAreFreedTakeTheNextInTheirOrder() {
        IcePads pads = Runs.plenty();
        pads.set(0, 3);
        int[] sizes = {2, 1, 2};
        for (int size : sizes) pads.jet(size, 0, 1, 0);
        pads.jet(5, 4, 1, 0);
        pads.jet(5, 3, 1, 0);
        pads.jet(5, 3, 1, 0);
        pads.minutes(4);
        Checks.due("pad 1 first", pads.on(0) + " " + pads.on(1) + " " + pads.on(2), "0 4 2");
        pads.minutes(1);
        Checks.due("then 0 and 2", pads.on(0) + " " + pads.on(1) + " " + pads.on(2), "5 4 3");
    }

    // ---- LATE

    static void lateIs0IfItNeverWaited() {
        IcePads pads = Runs.plenty();
        pads.jet(5, 20, 20, 0);
        Runs.to(pads, 60);
        Cases.due(pads, 0, "about", 0, 6);
        Cases.due(pads, 0, "count", 9);
    }

    static void lateIs1IfItWaitedOneMinute() {
        IcePads pads = Runs.plenty();
        pads.jet(1, 0, 1, 0);
        pads.jet(1, 1, 1, 0);
        pads.minutes(10);
        Cases.due(pads, 1, "about", 1, 6);
        Cases.due(pads, 1, "count", 9);
    }

    static void thereIsNoLateBeforeItIsGone() {
        IcePads pads = Runs.plenty();
        pads.jet(1, 1, 1, 0);
        for (int minute = 0; minute < 4; minute++) {
            Cases.due(pads, NONE, "about", 0, 6);
            Cases.due(pads, NONE, "about", 0, 5);
            pads.minutes(1);
        }
        Cases.due(pads, 0, "about", 0, 6);
        Cases.due(pads, 4, "about", 0, 5);
    }

    static void lateIsFromTheFirstReady() {
        IcePads pads = new IcePads();
        pads.fluid(0, 30, 2, 2, 2, 1, 1, 2000);
        pads.weather(4, 0, 1);
        for (int minute = 5; minute < 40; minute++) pads.weather(minute, 0, 0);
        pads.jet(1, 4, 7, 0);
        pads.minutes(40);
        Checks.due("turned back once", Checks.about(pads, 0), "2 -900 13 13 1 22 9");
        Cases.due(pads, 9, "count", 9);
    }

    private static IcePads at(int minute) {
        IcePads pads = Runs.busy();
        Runs.to(pads, minute);
        return pads;
    }

    /** THE DRAIN, one MINUTE behind a START that brought it 16. */
    private static int drainAfterRate(int rate) {
        IcePads pads = Runs.plenty();
        pads.set(2, rate);
        pads.jet(2, 0, 1, 0);
        pads.minutes(2);
        return pads.count(6);
    }

    /** The START of a JET of SIZE 1 on the second PAD, behind one of SIZE 2 that began in MINUTE 0. */
    private static int secondStart(int limit, int rate) {
        IcePads pads = Runs.plenty();
        pads.set(0, 2);
        pads.set(1, limit);
        pads.set(2, rate);
        pads.jet(2, 0, 1, 0);
        pads.jet(1, 0, 1, 0);
        pads.minutes(4);
        return pads.about(1, 2);
    }

    /** About a JET that began in MINUTE 10, in the MINUTE in which its TREATMENT ended. */
    private static String ended(int hold, int size, int roll) {
        IcePads pads = Runs.thin(hold, 2000);
        pads.jet(size, 10, roll, 0);
        Runs.to(pads, 10 + 2 * size + 1);
        return Checks.about(pads, 0);
    }

    /** As ended, for SIZE 2 and ROLL 19: 23 MINUTES, begun in so much COLD. */
    private static String endedIn(int cold, int span) {
        IcePads pads = Runs.thin(span, 2000);
        pads.weather(10, cold, 0);
        pads.jet(2, 10, 19, 0);
        Runs.to(pads, 15);
        return Checks.about(pads, 0);
    }

    /** JET 0 is turned back, READY in 6; JET 1 is treated till 12; the STARTS of 0 and of 2 from then on. */
    private static String startsBehindTurnedBack(int ready) {
        IcePads pads = Runs.thin(5, 2000);
        pads.fluid(0, 100, 100, 100, 100, 1, 1, 2000);
        pads.jet(1, 0, 4, 0);
        pads.jet(5, 1, 1, 1);
        pads.jet(1, ready, 1, 1);
        pads.minutes(15);
        return pads.about(0, 2) + " " + pads.about(2, 2);
    }

    /** The STARTS of two JETS of SIZE 1 while the PAD is taken till MINUTE 4. */
    private static String startsOf(int ready, int other) {
        IcePads pads = Runs.plenty();
        pads.jet(2, 0, 1, 0);
        pads.jet(1, ready, 1, 0);
        pads.jet(1, other, 1, 0);
        pads.minutes(10);
        return pads.about(1, 2) + " " + pads.about(2, 2);
    }

    /** Whether a JET begins by so many LITRES and such a LIMIT; what it takes is looked at too. */
    private static int begunBy(int size, int litres, int limit) {
        IcePads pads = Runs.thin(100, litres);
        pads.set(1, limit);
        pads.jet(size, 0, 1, 0);
        pads.minutes(1);
        int begun = pads.count(7);
        Cases.due(pads, litres - 10 * size * begun, "litres", 0);
        Cases.due(pads, 8 * size * begun, "count", 6);
        return begun;
    }

    /** How many of two JETS, of SIZE 2 and 1, begin on two PADS in one MINUTE. */
    private static int begunByTwo(int litres, int limit) {
        IcePads pads = Runs.thin(100, litres);
        pads.set(0, 2);
        pads.set(1, limit);
        pads.jet(2, 0, 1, 0);
        pads.jet(1, 0, 1, 0);
        pads.minutes(1);
        return pads.count(7);
    }
}
