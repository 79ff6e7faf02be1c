/** Boundary cases of MINUTES, WEATHER and what is KNOWN; promises 1 to 4. */
public final class BoundsWeatherTest {
    private static final int BAD = IcePads.BAD;
    private static final int STATE = IcePads.STATE;

    public static void main(String[] args) {
        Cases.runAll(BoundsWeatherTest.class);
    }

    // ---- promise 1: a new object

    static void nowIs0AtFirst() {
        Cases.taken(Runs::fresh, 0, "count", 0);
    }

    static void everyMinuteIsMissingAtFirst() {
        IcePads pads = new IcePads();
        for (int minute = 0; minute < 300; minute++) Cases.due(pads, 0, "known", minute, 2);
    }

    static void everyMinuteHasCold0AtFirst() {
        IcePads pads = new IcePads();
        for (int minute = 0; minute < 300; minute++) Cases.due(pads, 0, "known", minute, 0);
    }

    static void everyMinuteHasFall0AtFirst() {
        IcePads pads = new IcePads();
        for (int minute = 0; minute < 300; minute++) Cases.due(pads, 0, "known", minute, 1);
    }

    static void noFluidAtFirst() {
        Cases.taken(Runs::fresh, 0, "count", 1);
        Cases.refused(Runs::fresh, BAD, "litres", 0);
    }

    static void noJetAtFirst() {
        Cases.taken(Runs::fresh, 0, "count", 3);
        Cases.refused(Runs::fresh, BAD, "about", 0, 0);
    }

    static void onePadAtFirstAndItIsFree() {
        Cases.taken(Runs::fresh, 1, "count", 2);
        Cases.taken(Runs::fresh, IcePads.NONE, "on", 0);
        Cases.refused(Runs::fresh, BAD, "on", 1);
    }

    // ---- promise 2: weather

    static void weatherOfTheFirstMinute() {
        IcePads pads = new IcePads();
        Cases.due(pads, 1, "weather", 0, -3, 1);
        Checks.known(pads, 0, "-3 1 1");
    }

    static void weatherOfTheLastMinute() {
        IcePads pads = new IcePads();
        Cases.due(pads, 1, "weather", 299, -3, 1);
        Checks.known(pads, 299, "-3 1 1");
    }

    static void noWeatherAheadOfTheFirstMinute() {
        Cases.refused(Runs::fresh, BAD, "weather", -1, 0, 0);
    }

    static void noWeatherBehindTheLastMinute() {
        Cases.refused(Runs::busy, BAD, "weather", 300, 0, 0);
    }

    static void coldIsAtLeastMinus30() {
        IcePads pads = new IcePads();
        Cases.due(pads, 1, "weather", 20, -30, 1);
        Checks.known(pads, 20, "-30 1 1");
        Cases.refused(Runs::busy, BAD, "weather", 20, -31, 1);
    }

    static void coldIsAtMost5() {
        IcePads pads = new IcePads();
        Cases.due(pads, 1, "weather", 20, 5, 1);
        Checks.known(pads, 20, "5 1 1");
        Cases.refused(Runs::busy, BAD, "weather", 20, 6, 1);
    }

    static void fallIsAtLeast0() {
        IcePads pads = new IcePads();
        Cases.due(pads, 1, "weather", 20, -1, 0);
        Checks.known(pads, 20, "-1 0 1");
        Cases.refused(Runs::busy, BAD, "weather", 20, -1, -1);
    }

    static void fallIsAtMost3() {
        IcePads pads = new IcePads();
        Cases.due(pads, 1, "weather", 20, -1, 3);
        Checks.known(pads, 20, "-1 3 1");
        Cases.refused(Runs::busy, BAD, "weather", 20, -1, 4);
    }

    static void weatherToldAgainStandsForTheFirst() {
        IcePads pads = new IcePads();
        pads.weather(20, -30, 3);
        Cases.due(pads, 1, "weather", 20, 5, 0);
        Checks.known(pads, 20, "5 0 1");
    }

    static void weatherIsOfNoOtherMinute() {
        IcePads pads = new IcePads();
        pads.weather(20, -30, 3);
        pads.weather(21, 5, 0);
        Checks.known(pads, 20, "-30 3 1");
        Checks.known(pads, 21, "5 0 1");
        Checks.known(pads, 19, "0 0 0");
    }

    static void weatherOfNow() {
        IcePads pads = Runs.busy();
        Cases.due(pads, 1, "weather", 12, -1, 2);
        Checks.known(pads, 12, "-1 2 1");
    }

    static void noWeatherAheadOfNow() {
        Cases.refused(Runs::busy, STATE, "weather", 11, -1, 2);
    }

    static void noWeatherAheadOfNowIfToldBefore() {
        Cases.refused(Runs::busy, STATE, "weather", 4, -12, 0);
    }

    static void noWeatherOfTheFirstMinuteOnceOneWent() {
        Cases.refused(BoundsWeatherTest::oneMinuteWent, STATE, "weather", 0, 0, 0);
        Cases.taken(BoundsWeatherTest::oneMinuteWent, 1, "weather", 1, 0, 0);
    }

    static void weatherInTheLastMinute() {
        Cases.taken(Runs::last, 1, "weather", 299, 0, 0);
        Cases.refused(Runs::last, STATE, "weather", 298, 0, 0);
        Cases.refused(Runs::last, BAD, "weather", 300, 0, 0);
    }

    // ---- promise 3: loses

    static void losesTheFirstMinute() {
        IcePads pads = new IcePads();
        pads.weather(0, -3, 1);
        Cases.due(pads, 1, "loses", 0);
        Checks.known(pads, 0, "0 0 0");
    }

    static void losesTheLastMinute() {
        IcePads pads = new IcePads();
        pads.weather(299, -3, 1);
        Cases.due(pads, 1, "loses", 299);
        Checks.known(pads, 299, "0 0 0");
    }

    static void losesNothingAheadOfTheFirstMinute() {
        Cases.refused(Runs::fresh, BAD, "loses", -1);
    }

    static void losesNothingBehindTheLastMinute() {
        Cases.refused(Runs::busy, BAD, "loses", 300);
    }

    static void losesWhatWasNeverTold() {
        Cases.taken(Runs::fresh, 0, "loses", 0);
        Cases.taken(Runs::fresh, 0, "loses", 299);
        Cases.taken(Runs::busy, 0, "loses", 39);
    }

    static void losesWhatIsKnownByOthersButNotTold() {
        IcePads pads = new IcePads();
        pads.weather(20, -3, 1);
        Cases.due(pads, 0, "loses", 21);
        Checks.known(pads, 21, "-3 1 0");
    }

    static void losesOnceAlone() {
        IcePads pads = Runs.busy();
        Cases.due(pads, 1, "loses", 40);
        Cases.due(pads, 0, "loses", 40);
    }

    static void losesWhatWasToldTwiceAtOnce() {
        IcePads pads = new IcePads();
        pads.weather(20, -3, 1);
        pads.weather(20, -4, 2);
        Cases.due(pads, 1, "loses", 20);
        Checks.known(pads, 20, "0 0 0");
    }

    static void losesOneMinuteAlone() {
        IcePads pads = new IcePads();
        for (int minute = 19; minute <= 21; minute++) pads.weather(minute, -minute, 1);
        pads.loses(20);
        Checks.known(pads, 19, "-19 1 1");
        Checks.known(pads, 20, "-19 1 0");
        Checks.known(pads, 21, "-21 1 1");
    }

    static void lostAndToldAgain() {
        IcePads pads = Runs.busy();
        pads.loses(40);
        pads.weather(40, 1, 1);
        Checks.known(pads, 40, "1 1 1");
        Cases.due(pads, 1, "loses", 40);
    }

    static void losesNow() {
        IcePads pads = Runs.busy();
        pads.weather(12, -1, 2);
        Cases.due(pads, 1, "loses", 12);
        Cases.taken(Runs::busy, 0, "loses", 12);
    }

    static void losesNothingAheadOfNow() {
        Cases.refused(Runs::busy, STATE, "loses", 4);
        Cases.refused(Runs::busy, STATE, "loses", 11);
        Cases.refused(Runs::busy, STATE, "loses", 0);
    }

    static void losesNothingOfTheFirstMinuteOnceOneWent() {
        Cases.refused(BoundsWeatherTest::oneMinuteWent, STATE, "loses", 0);
        Cases.taken(BoundsWeatherTest::oneMinuteWent, 1, "loses", 1);
    }

    static void losesInTheLastMinute() {
        Cases.taken(Runs::last, 0, "loses", 299);
        Cases.refused(Runs::last, STATE, "loses", 298);
        Cases.refused(Runs::last, STATE, "loses", 290);
    }

    // ---- promise 4: known

    static void knownOfMinutes0To299() {
        IcePads pads = new IcePads();
        for (int what = 0; what < 3; what++) {
            Cases.due(pads, 0, "known", 0, what);
            Cases.due(pads, 0, "known", 299, what);
            Cases.refused(Runs::busy, BAD, "known", -1, what);
            Cases.refused(Runs::busy, BAD, "known", 300, what);
        }
    }

    static void knownAsksThreeThings() {
        Cases.taken(Runs::busy, -5, "known", 40, 0);
        Cases.taken(Runs::busy, 2, "known", 40, 1);
        Cases.taken(Runs::busy, 1, "known", 40, 2);
        Cases.refused(Runs::busy, BAD, "known", 40, -1);
        Cases.refused(Runs::busy, BAD, "known", 40, 3);
    }

    static void knownOfMinutesAheadOfNowStays() {
        IcePads pads = Runs.last();
        Checks.known(pads, 0, "-3 1 1");
        Checks.known(pads, 4, "-12 0 1");
        Checks.known(pads, 5, "-12 1 0");
        Checks.known(pads, 298, "-9 1 0");
    }

    static void whatIsToldIsNotMadeWorseByOthers() {
        IcePads pads = new IcePads();
        pads.weather(19, -30, 3);
        pads.weather(20, 5, 0);
        pads.weather(21, -30, 3);
        Checks.known(pads, 20, "5 0 1");
    }

    static void missingKnowsOfTheMinuteJustAheadOfIt() {
        IcePads pads = new IcePads();
        pads.weather(20, -7, 2);
        Checks.known(pads, 21, "-7 2 0");
    }

    static void missingKnowsOfTheThirtiethMinuteAheadOfIt() {
        IcePads pads = new IcePads();
        pads.weather(20, -7, 2);
        Checks.known(pads, 50, "-7 2 0");
    }

    static void missingKnowsNotOfTheThirtyFirst() {
        IcePads pads = new IcePads();
        pads.weather(20, -7, 2);
        Checks.known(pads, 51, "0 0 0");
    }

    static void missingKnowsNotOfTheMinuteBehindIt() {
        IcePads pads = new IcePads();
        pads.weather(20, -7, 2);
        Checks.known(pads, 19, "0 0 0");
    }

    static void missingKnowsNotOfWhatItWasToldBefore() {
        IcePads pads = new IcePads();
        pads.weather(20, -7, 2);
        pads.weather(19, -1, 1);
        pads.loses(20);
        Checks.known(pads, 20, "-1 1 0");
    }

    static void missingKnowsNotOfOthersThatAreMissing() {
        IcePads pads = new IcePads();
        pads.weather(20, -7, 2);
        Checks.known(pads, 40, "-7 2 0");
        Checks.known(pads, 60, "0 0 0");
        pads.loses(20);
        Checks.known(pads, 40, "0 0 0");
    }

    static void missingHasTheLeastColdAndTheGreatestFallOfAll() {
        IcePads pads = new IcePads();
        pads.weather(20, -8, 0);
        pads.weather(21, -2, 3);
        pads.weather(22, -5, 1);
        Checks.known(pads, 23, "-8 3 0");
        Checks.known(pads, 50, "-8 3 0");
        Checks.known(pads, 51, "-5 3 0");
        Checks.known(pads, 52, "-5 1 0");
        Checks.known(pads, 53, "0 0 0");
    }

    static void missingHasColdAbove0IfAllHave() {
        IcePads pads = new IcePads();
        pads.weather(20, 5, 0);
        Checks.known(pads, 21, "5 0 0");
        pads.weather(21, 4, 0);
        Checks.known(pads, 22, "4 0 0");
    }

    static void missingHasTheBoundsOfColdAndFall() {
        IcePads pads = new IcePads();
        pads.weather(20, -30, 3);
        Checks.known(pads, 21, "-30 3 0");
    }

    static void missingKnowsOfAllThirtyAtOnce() {
        IcePads pads = new IcePads();
        for (int minute = 19; minute < 50; minute++) pads.weather(minute, minute - 49, minute == 20 ? 2 : 1);
        Checks.known(pads, 50, "-29 2 0");
        Checks.known(pads, 51, "-28 1 0");
    }

    static void theFirstMinuteHasNoneAheadOfIt() {
        IcePads pads = new IcePads();
        for (int minute = 1; minute < 300; minute++) pads.weather(minute, -30, 3);
        Checks.known(pads, 0, "0 0 0");
    }

    static void theFirstMinutesHaveFewerThanThirtyAheadOfThem() {
        IcePads pads = new IcePads();
        pads.weather(0, -7, 2);
        Checks.known(pads, 1, "-7 2 0");
        Checks.known(pads, 29, "-7 2 0");
        Checks.known(pads, 30, "-7 2 0");
        Checks.known(pads, 31, "0 0 0");
    }

    static void theLastMinuteKnowsOf269To298() {
        IcePads pads = new IcePads();
        pads.weather(268, -20, 3);
        Checks.known(pads, 299, "0 0 0");
        pads.weather(269, -7, 2);
        Checks.known(pads, 299, "-7 2 0");
        pads.weather(298, -9, 1);
        Checks.known(pads, 299, "-9 2 0");
    }

    private static IcePads oneMinuteWent() {
        IcePads pads = new IcePads();
        pads.weather(0, -3, 1);
        pads.weather(1, -4, 2);
        pads.minutes(1);
        return pads;
    }
}
