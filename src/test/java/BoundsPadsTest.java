/** Boundary cases of PADS, THE DRAIN's settings and JETS as they are told; promises 8, 9, 11, 12. */
public final class BoundsPadsTest {
    private static final int BAD = IcePads.BAD;
    private static final int STATE = IcePads.STATE;
    private static final int FULL = IcePads.FULL;
    private static final int NONE = IcePads.NONE;

    public static void main(String[] args) {
        Cases.runAll(BoundsPadsTest.class);
    }

    // ---- promise 8: set

    static void setChangesThreeThings() {
        Cases.taken(Runs::fresh, 1, "set", 0, 1);
        Cases.taken(Runs::fresh, 200, "set", 1, 200);
        Cases.taken(Runs::fresh, 5, "set", 2, 5);
        Cases.refused(Runs::busy, BAD, "set", -1, 10);
        Cases.refused(Runs::busy, BAD, "set", 3, 10);
    }

    static void padsAre1AtLeast() {
        IcePads pads = new IcePads();
        pads.set(0, 2);
        Cases.due(pads, 2, "set", 0, 1);
        Cases.due(pads, 1, "count", 2);
        Cases.refused(Runs::fresh, BAD, "set", 0, 0);
    }

    static void padsAre3AtMost() {
        IcePads pads = new IcePads();
        Cases.due(pads, 1, "set", 0, 3);
        Cases.due(pads, 3, "count", 2);
        Cases.refused(Runs::fresh, BAD, "set", 0, 4);
    }

    static void limitIs10AtLeast() {
        IcePads pads = new IcePads();
        Cases.due(pads, 200, "set", 1, 10);
        Cases.due(pads, 10, "set", 1, 10);
        Cases.refused(Runs::busy, BAD, "set", 1, 9);
    }

    static void limitIs1000AtMost() {
        IcePads pads = new IcePads();
        Cases.due(pads, 200, "set", 1, 1000);
        Cases.due(pads, 1000, "set", 1, 1000);
        Cases.refused(Runs::busy, BAD, "set", 1, 1001);
    }

    static void rateIs0AtLeast() {
        IcePads pads = new IcePads();
        Cases.due(pads, 5, "set", 2, 0);
        Cases.due(pads, 0, "set", 2, 0);
        Cases.refused(Runs::busy, BAD, "set", 2, -1);
    }

    static void rateIs50AtMost() {
        IcePads pads = new IcePads();
        Cases.due(pads, 5, "set", 2, 50);
        Cases.due(pads, 50, "set", 2, 50);
        Cases.refused(Runs::busy, BAD, "set", 2, 51);
    }

    static void eachSettingStandsAlone() {
        IcePads pads = new IcePads();
        pads.set(0, 2);
        pads.set(1, 20);
        pads.set(2, 30);
        Cases.due(pads, 2, "set", 0, 1);
        Cases.due(pads, 20, "set", 1, 10);
        Cases.due(pads, 30, "set", 2, 0);
    }

    static void onePadAtFirstTakesOneJet() {
        IcePads pads = Runs.plenty();
        pads.jet(1, 0, 1, 0);
        pads.jet(1, 0, 1, 0);
        pads.minutes(1);
        Cases.due(pads, 1, "count", 7);
    }

    static void limitAtFirstIs200() {
        IcePads pads = Runs.plenty();
        pads.set(2, 0);
        for (int i = 0; i < 5; i++) pads.jet(5, 0, 1, 0);
        pads.jet(1, 0, 1, 0);
        Runs.to(pads, 100);
        Cases.due(pads, 200, "count", 6);
        Cases.due(pads, 5, "count", 7);
        Cases.due(pads, 0, "about", 5, 0);
        Cases.due(pads, 200, "set", 1, 208);
        pads.minutes(1);
        Cases.due(pads, 208, "count", 6);
        Cases.due(pads, 1, "about", 5, 0);
    }

    static void rateAtFirstIs5() {
        IcePads pads = Runs.plenty();
        pads.jet(2, 0, 1, 0);
        pads.minutes(1);
        Cases.due(pads, 16, "count", 6);
        pads.minutes(1);
        Cases.due(pads, 11, "count", 6);
    }

    static void padsStayWhileTheFirstIsTaken() {
        Cases.refused(Runs::busy, STATE, "set", 0, 1);
        Cases.refused(Runs::busy, STATE, "set", 0, 3);
    }

    static void padsStayWhileTheLastAloneIsTaken() {
        IcePads pads = lastPadAloneTaken();
        Checks.due("pads", pads.on(0) + " " + pads.on(1) + " " + pads.on(2), "-900 -900 2");
        Cases.refused(BoundsPadsTest::lastPadAloneTaken, STATE, "set", 0, 1);
        Cases.refused(BoundsPadsTest::lastPadAloneTaken, STATE, "set", 0, 3);
    }

    static void padsStayEvenAsTheyAre() {
        Cases.refused(Runs::busy, STATE, "set", 0, 2);
    }

    static void padsChangeOnceTheLastJetLeft() {
        IcePads pads = lastPadAloneTaken();
        pads.minutes(5);
        Cases.due(pads, STATE, "set", 0, 2);
        pads.minutes(1);
        Cases.due(pads, 3, "set", 0, 2);
    }

    static void padsChangeWhileJetsWaitAndAreGone() {
        IcePads pads = new IcePads();
        pads.fluid(0, 3, 3, 3, 3, 1, 1, 2000);
        pads.jet(1, 0, 1, 0);
        pads.jet(1, 2, 20, 0);
        pads.minutes(5);
        Checks.due("one is GONE, one turned back", Checks.counts(pads), "5 1 1 2 1 1 0 2 1 0");
        Cases.due(pads, 1, "set", 0, 3);
    }

    static void limitAndRateChangeWhileAPadIsTaken() {
        Cases.taken(Runs::busy, 200, "set", 1, 10);
        Cases.taken(Runs::busy, 5, "set", 2, 50);
    }

    static void fewerPadsAreThereNoMore() {
        IcePads pads = Runs.plenty();
        pads.set(0, 3);
        pads.set(0, 1);
        for (int i = 0; i < 3; i++) pads.jet(5, 0, 1, 0);
        pads.minutes(1);
        Cases.due(pads, 1, "count", 7);
        Cases.due(pads, BAD, "on", 1);
        Cases.due(pads, BAD, "on", 2);
    }

    // ---- promise 9: jet

    static void noJetWhileThereIsNoFluid() {
        Cases.refused(Runs::fresh, BAD, "jet", 1, 0, 1, 0);
    }

    static void sizeIs1To5() {
        Cases.taken(Runs::busy, 5, "jet", 1, 20, 1, 0);
        Cases.taken(Runs::busy, 5, "jet", 5, 20, 1, 0);
        Cases.refused(Runs::busy, BAD, "jet", 0, 20, 1, 0);
        Cases.refused(Runs::busy, BAD, "jet", 6, 20, 1, 0);
    }

    static void readyIsNowOrLater() {
        Cases.taken(Runs::busy, 5, "jet", 1, 12, 1, 0);
        Cases.refused(Runs::busy, BAD, "jet", 1, 11, 1, 0);
        Cases.taken(Runs::plenty, 0, "jet", 1, 0, 1, 0);
        Cases.refused(Runs::plenty, BAD, "jet", 1, -1, 1, 0);
    }

    static void readyIs299AtMost() {
        Cases.taken(Runs::busy, 5, "jet", 1, 299, 1, 0);
        Cases.refused(Runs::busy, BAD, "jet", 1, 300, 1, 0);
    }

    static void readyInTheLastMinute() {
        Cases.taken(Runs::last, 7, "jet", 1, 299, 1, 0);
        Cases.refused(Runs::last, BAD, "jet", 1, 298, 1, 0);
        Cases.refused(Runs::last, BAD, "jet", 1, 300, 1, 0);
    }

    static void rollIs1To20() {
        Cases.taken(Runs::busy, 5, "jet", 1, 20, 1, 0);
        Cases.taken(Runs::busy, 5, "jet", 1, 20, 20, 0);
        Cases.refused(Runs::busy, BAD, "jet", 1, 20, 0, 0);
        Cases.refused(Runs::busy, BAD, "jet", 1, 20, 21, 0);
    }

    static void fluidOfAJetIsThere() {
        Cases.taken(Runs::busy, 5, "jet", 1, 20, 1, 2);
        Cases.refused(Runs::busy, BAD, "jet", 1, 20, 1, 3);
        Cases.refused(Runs::busy, BAD, "jet", 1, 20, 1, -1);
        Cases.taken(BoundsPadsTest::fourFluids, 0, "jet", 1, 20, 1, 3);
        Cases.refused(BoundsPadsTest::fourFluids, BAD, "jet", 1, 20, 1, 4);
    }

    static void fluidOfAJetMayBeEmpty() {
        IcePads pads = Runs.thin(100, 0);
        Cases.due(pads, 0, "jet", 1, 0, 1, 0);
        pads.minutes(1);
        Cases.due(pads, 0, "about", 0, 0);
    }

    static void theTwelfthJetIsTheLast() {
        IcePads pads = Runs.plenty();
        for (int number = 0; number < 12; number++) {
            Cases.due(pads, number, "count", 3);
            Cases.due(pads, number, "jet", 1, 100 + number, 1, 0);
        }
        Cases.due(pads, FULL, "jet", 1, 100, 1, 0);
        Cases.due(pads, 12, "count", 3);
        for (int number = 0; number < 12; number++) Cases.due(pads, 100 + number, "about", number, 3);
        Cases.refused(Runs::full, FULL, "jet", 1, 100, 1, 0);
    }

    static void aRefusedJetTakesNoNumber() {
        IcePads pads = Runs.plenty();
        Cases.due(pads, BAD, "jet", 1, 0, 21, 0);
        Cases.due(pads, 0, "jet", 1, 0, 20, 0);
    }

    static void jetsThatAreGoneKeepTheirPlaces() {
        IcePads pads = Runs.plenty();
        for (int i = 0; i < 12; i++) pads.jet(1, 0, 1, 0);
        Runs.to(pads, 60);
        Cases.due(pads, 12, "count", 5);
        Cases.due(pads, FULL, "jet", 1, 100, 1, 0);
    }

    static void aJetWaitsAtFirst() {
        IcePads pads = Runs.plenty();
        pads.jet(3, 7, 9, 0);
        Checks.due("a new jet", Checks.about(pads, 0), "0 -900 -900 7 0 -900 -900");
        Cases.due(pads, NONE, "on", 0);
    }

    // ---- promise 11: about

    static void aboutNoJetWhileThereIsNone() {
        for (int what = 0; what < 7; what++) Cases.refused(Runs::fresh, BAD, "about", 0, what);
    }

    static void aboutJetsThatAreThere() {
        Cases.taken(Runs::busy, 2, "about", 0, 0);
        Cases.taken(Runs::busy, 0, "about", 4, 0);
        Cases.refused(Runs::busy, BAD, "about", -1, 0);
        Cases.refused(Runs::busy, BAD, "about", 5, 0);
        Cases.taken(Runs::full, 7, "about", 11, 3);
        Cases.refused(Runs::full, BAD, "about", 12, 0);
    }

    static void aboutAsksSevenThings() {
        Cases.taken(Runs::busy, 2, "about", 0, 0);
        Cases.taken(Runs::busy, 0, "about", 0, 6);
        Cases.refused(Runs::busy, BAD, "about", 0, -1);
        Cases.refused(Runs::busy, BAD, "about", 0, 7);
    }

    static void aboutAJetThatNeverBegan() {
        Checks.due("jet 3", Checks.about(Runs.busy(), 3), "0 -900 -900 50 0 -900 -900");
    }

    static void aboutAJetOnAPad() {
        Checks.due("jet 2", Checks.about(Runs.busy(), 2), "1 0 6 6 0 -900 -900");
    }

    static void aboutAJetOnTheLastPad() {
        Checks.due("jet 2", Checks.about(lastPadAloneTaken(), 2), "1 2 0 0 0 -900 -900");
    }

    static void aboutAJetThatWasTurnedBack() {
        Checks.due("jet 1", Checks.about(Runs.busy(), 1), "0 -900 0 22 1 -900 -900");
    }

    static void aboutAJetThatWasTurnedBackAndIsOnAPad() {
        IcePads pads = Runs.busy();
        Runs.to(pads, 23);
        Checks.due("jet 1", Checks.about(pads, 1), "1 0 22 22 1 -900 -900");
    }

    static void aboutAJetThatIsGone() {
        Checks.due("jet 0", Checks.about(Runs.busy(), 0), "2 -900 0 0 0 3 0");
    }

    // ---- promise 12: on

    static void onPadsThatAreThere() {
        IcePads pads = new IcePads();
        for (int count = 1; count <= 3; count++) {
            pads.set(0, count);
            Cases.due(pads, BAD, "on", -1);
            Cases.due(pads, NONE, "on", count - 1);
            Cases.due(pads, BAD, "on", count);
        }
        Cases.refused(Runs::busy, BAD, "on", -1);
        Cases.refused(Runs::busy, BAD, "on", 2);
        Cases.refused(Runs::full, BAD, "on", 3);
    }

    static void onAPadThatIsTakenAndOneThatIsFree() {
        Cases.taken(Runs::busy, 2, "on", 0);
        Cases.taken(Runs::busy, NONE, "on", 1);
    }

    static void onAPadThatJet0Takes() {
        IcePads pads = Runs.plenty();
        pads.jet(1, 0, 1, 0);
        Cases.due(pads, NONE, "on", 0);
        pads.minutes(1);
        Cases.due(pads, 0, "on", 0);
    }

    static void onAPadThatJet11Takes() {
        IcePads pads = Runs.plenty();
        for (int i = 0; i < 12; i++) pads.jet(1, 20 - i, 1, 0);
        Runs.to(pads, 10);
        Cases.due(pads, 11, "on", 0);
    }

    private static IcePads fourFluids() {
        IcePads pads = new IcePads();
        for (int i = 0; i < 4; i++) pads.fluid(0, 100, 100, 100, 100, 1, 1, 100);
        return pads;
    }

    /** Three PADS, all taken in MINUTE 0; NOW is 5, and JET 2 alone is not yet done: it leaves in MINUTE 10. */
    private static IcePads lastPadAloneTaken() {
        IcePads pads = Runs.plenty();
        pads.set(0, 3);
        pads.jet(1, 0, 1, 0);
        pads.jet(2, 0, 1, 0);
        pads.jet(5, 0, 1, 0);
        pads.minutes(5);
        return pads;
    }
}
