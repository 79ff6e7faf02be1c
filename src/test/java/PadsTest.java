/** Promises 8 set, 9 jet, 10 minutes, 11 about, 12 on. */
public final class PadsTest {
    private static final int BAD = IcePads.BAD;
    private static final int STATE = IcePads.STATE;
    private static final int FULL = IcePads.FULL;
    private static final int NONE = IcePads.NONE;

    public static void main(String[] args) {
        promise8Set();
        promise8SetRefuses();
        promise8PadsStayWhileOneIsTaken();
        promise9Jet();
        promise9Refuses();
        promise10MinutesCount();
        promise10DrainLosesBeforeJetsBegin();
        promise10DrainNeverBelowNothing();
        promise10PadIsTakenInTheMinuteItIsFreed();
        promise10AllPadsEndBeforeOneBegins();
        promise10FirstReadyThenLeastNumber();
        promise10PassesOverWhatMayNotBegin();
        promise10LitresAtTheEdge();
        promise10FliesAtTheEdgeOfHold();
        promise10HoldIsThatOfTheStart();
        promise10TurnsBack();
        promise11About();
        promise11LateCountsFromFirstReady();
        promise11Refuses();
        promise12On();
        Checks.finish();
    }

    /** One THIN fluid that holds 100 MINUTES in any weather but cold, 2000 LITRES. */
    private static IcePads withFluid() {
        IcePads pads = new IcePads();
        pads.fluid(0, 100, 100, 100, 100, 1, 1, 2000);
        return pads;
    }

    private static void promise8Set() {
        IcePads pads = new IcePads();
        Checks.due("set(0, 3)", pads.set(0, 3), 1);
        Checks.due("set(0, 2)", pads.set(0, 2), 3);
        Checks.due("set(0, 1)", pads.set(0, 1), 2);
        Checks.due("count(2)", pads.count(2), 1);
        Checks.due("set(1, 10)", pads.set(1, 10), 200);
        Checks.due("set(1, 1000)", pads.set(1, 1000), 10);
        Checks.due("set(1, 7), refused", pads.set(1, 7), BAD);
        Checks.due("set(1, 50)", pads.set(1, 50), 1000);
        Checks.due("set(2, 50)", pads.set(2, 50), 5);
        Checks.due("set(2, 0)", pads.set(2, 0), 50);
        Checks.due("set(2, 0)", pads.set(2, 0), 0);
    }

    private static void promise8SetRefuses() {
        IcePads pads = new IcePads();
        int[][] wrong = {{-1, 1}, {3, 1}, {0, 0}, {0, 4}, {0, -1}, {1, 9}, {1, 1001}, {2, -1}, {2, 51}};
        for (int[] w : wrong) Checks.due("set(" + w[0] + ", " + w[1] + ")", pads.set(w[0], w[1]), BAD);
        Checks.due("pads as before", pads.set(0, 1), 1);
        Checks.due("limit as before", pads.set(1, 200), 200);
        Checks.due("rate as before", pads.set(2, 5), 5);
    }

    private static void promise8PadsStayWhileOneIsTaken() {
        IcePads pads = withFluid();
        pads.set(0, 2);
        pads.jet(1, 0, 1, 0);
        pads.minutes(2);
        Checks.due("set(0, 1) while taken", pads.set(0, 1), STATE);
        Checks.due("set(0, 2) while taken", pads.set(0, 2), STATE);
        Checks.due("set(0, 4), BAD goes first", pads.set(0, 4), BAD);
        Checks.due("count(2)", pads.count(2), 2);
        Checks.due("set(1, 300) while taken", pads.set(1, 300), 200);
        Checks.due("set(2, 6) while taken", pads.set(2, 6), 5);
        pads.minutes(1);
        Checks.due("set(0, 1) when free", pads.set(0, 1), 2);
        Checks.due("on(1)", pads.on(1), BAD);
    }

    private static void promise9Jet() {
        IcePads pads = withFluid();
        pads.minutes(10);
        Checks.due("READY now", pads.jet(1, 10, 1, 0), 0);
        Checks.due("READY last", pads.jet(5, 299, 20, 0), 1);
        Checks.due("jet 0", Checks.about(pads, 0), "0 -900 -900 10 0 -900 -900");
        Checks.due("jet 1", Checks.about(pads, 1), "0 -900 -900 299 0 -900 -900");
        for (int i = 2; i < 12; i++) Checks.due("jet " + i, pads.jet(2, 100, 2, 0), i);
        Checks.due("a thirteenth", pads.jet(2, 100, 2, 0), FULL);
        Checks.due("a thirteenth, not as told", pads.jet(6, 100, 2, 0), BAD);
        Checks.due("count(3)", pads.count(3), 12);
        Checks.due("jet 11", Checks.about(pads, 11), "0 -900 -900 100 0 -900 -900");
        pads.minutes(60);
        Checks.due("one is GONE", pads.count(5), 1);
        Checks.due("still full", pads.jet(2, 100, 2, 0), FULL);
    }

    private static void promise9Refuses() {
        IcePads pads = withFluid();
        pads.minutes(10);
        int[][] wrong = {
            {0, 10, 1, 0}, {6, 10, 1, 0}, {1, 9, 1, 0}, {1, -1, 1, 0}, {1, 300, 1, 0},
            {1, 10, 0, 0}, {1, 10, 21, 0}, {1, 10, 1, -1}, {1, 10, 1, 1}, {1, 10, 1, 4}};
        for (int i = 0; i < wrong.length; i++) {
            int[] w = wrong[i];
            Checks.due("wrong jet " + i, pads.jet(w[0], w[1], w[2], w[3]), BAD);
        }
        Checks.due("count(3)", pads.count(3), 0);
    }

    private static void promise10MinutesCount() {
        IcePads pads = new IcePads();
        Checks.due("minutes(0)", pads.minutes(0), BAD);
        Checks.due("minutes(-1)", pads.minutes(-1), BAD);
        Checks.due("minutes(61)", pads.minutes(61), BAD);
        Checks.due("minutes(1)", pads.minutes(1), 1);
        for (int i = 1; i < 5; i++) Checks.due("minutes(60)", pads.minutes(60), 1 + 60 * i);
        Checks.due("minutes(59), to 300", pads.minutes(59), STATE);
        Checks.due("minutes(61), BAD goes first", pads.minutes(61), BAD);
        Checks.due("count(0)", pads.count(0), 241);
        Checks.due("minutes(58), to 299", pads.minutes(58), 299);
        Checks.due("minutes(1), to 300", pads.minutes(1), STATE);
    }

    private static void promise10DrainLosesBeforeJetsBegin() {
        IcePads pads = withFluid();
        pads.set(0, 2);
        pads.set(1, 16);
        pads.set(2, 7);
        pads.jet(2, 0, 1, 0);
        pads.jet(1, 0, 1, 0);
        pads.minutes(1);
        Checks.due("drain at its limit", pads.count(6), 16);
        Checks.due("no room for jet 1", pads.on(1), NONE);
        pads.minutes(1);
        Checks.due("one too many", pads.on(1), NONE);
        Checks.due("drain", pads.count(6), 9);
        pads.minutes(1);
        Checks.due("room now", pads.on(1), 1);
        Checks.due("drain", pads.count(6), 10);
        Checks.due("start", pads.about(1, 2), 2);
    }

    private static void promise10DrainNeverBelowNothing() {
        IcePads pads = withFluid();
        pads.set(2, 50);
        pads.jet(5, 0, 1, 0);
        pads.jet(1, 0, 1, 0);
        pads.minutes(1);
        Checks.due("drain", pads.count(6), 40);
        pads.minutes(1);
        Checks.due("drain", pads.count(6), 0);
        pads.minutes(9);
        Checks.due("drain by jet 1 alone", pads.count(6), 8);
    }

    private static void promise10PadIsTakenInTheMinuteItIsFreed() {
        IcePads pads = withFluid();
        pads.jet(3, 0, 9, 0);
        pads.jet(2, 0, 1, 0);
        pads.minutes(6);
        Checks.due("still treated", pads.on(0), 0);
        pads.minutes(1);
        Checks.due("the next", pads.on(0), 1);
        Checks.due("its start", pads.about(1, 2), 6);
        Checks.due("jet 0", Checks.about(pads, 0), "2 -900 0 0 0 15 0");
        pads.minutes(4);
        Checks.due("free", pads.on(0), NONE);
        Checks.due("jet 1", Checks.about(pads, 1), "2 -900 6 0 0 11 6");
    }

    private static void promise10AllPadsEndBeforeOneBegins() {
        IcePads pads = withFluid();
        pads.set(0, 2);
        pads.jet(1, 0, 1, 0);
        pads.jet(2, 0, 1, 0);
        pads.jet(1, 4, 1, 0);
        pads.jet(1, 4, 1, 0);
        pads.minutes(4);
        Checks.due("pad 0", pads.on(0), NONE);
        Checks.due("pad 1", pads.on(1), 1);
        pads.minutes(1);
        Checks.due("pad 0", pads.on(0), 2);
        Checks.due("pad 1", pads.on(1), 3);
    }

    private static void promise10FirstReadyThenLeastNumber() {
        IcePads pads = withFluid();
        pads.jet(1, 0, 1, 0);
        pads.jet(1, 2, 1, 0);
        pads.jet(1, 1, 1, 0);
        pads.jet(1, 1, 1, 0);
        pads.jet(1, 50, 1, 0);
        pads.minutes(49);
        Checks.due("start of 1", pads.about(1, 2), 6);
        Checks.due("start of 2", pads.about(2, 2), 2);
        Checks.due("start of 3", pads.about(3, 2), 4);
        pads.minutes(1);
        Checks.due("4 not READY in 49", pads.about(4, 0), 0);
        pads.minutes(1);
        Checks.due("4 begins in 50", pads.about(4, 2), 50);
    }

    private static void promise10PassesOverWhatMayNotBegin() {
        IcePads pads = withFluid();
        pads.fluid(0, 100, 100, 100, 100, 1, 1, 19);
        pads.set(1, 32);
        pads.jet(2, 0, 1, 1);
        pads.jet(5, 1, 1, 0);
        pads.jet(4, 2, 1, 0);
        pads.jet(1, 2, 1, 1);
        pads.minutes(2);
        Checks.due("nobody may begin", pads.on(0), NONE);
        pads.minutes(1);
        Checks.due("the first that may", pads.on(0), 2);
        Checks.due("drain", pads.count(6), 32);
        pads.minutes(9);
        Checks.due("the next that may", pads.about(3, 2), 10);
        Checks.due("litres of the other fluid", pads.litres(1), 9);
        Checks.due("those that wait", pads.count(4), 2);
        pads.set(1, 40);
        pads.fill(1, 20);
        pads.minutes(60);
        Checks.due("all flew", pads.count(5), 4);
        Checks.due("0 before 1", pads.about(0, 2) < pads.about(1, 2) ? 1 : 0, 1);
    }

    private static void promise10LitresAtTheEdge() {
        IcePads pads = new IcePads();
        pads.fluid(0, 100, 100, 100, 100, 1, 1, 49);
        pads.jet(5, 0, 1, 0);
        pads.minutes(1);
        Checks.due("49 are too few", pads.count(7), 0);
        pads.fill(0, 50);
        pads.minutes(1);
        Checks.due("50 are enough", pads.count(7), 1);
        Checks.due("none left", pads.litres(0), 0);
        Checks.due("drain", pads.count(6), 40);
    }

    private static void promise10FliesAtTheEdgeOfHold() {
        for (int hold = 11; hold <= 13; hold++) {
            IcePads pads = new IcePads();
            pads.fluid(0, hold, 0, 0, 0, 1, 1, 2000);
            pads.jet(4, 0, 4, 0);
            pads.minutes(9);
            String want = hold < 12 ? "0 -900 0 12 1 -900 -900" : "2 -900 0 0 0 12 0";
            Checks.due("jet of HOLD " + hold, Checks.about(pads, 0), want);
        }
    }

    private static void promise10HoldIsThatOfTheStart() {
        IcePads pads = new IcePads();
        pads.fluid(0, 20, 2, 2, 2, 1, 1, 2000);
        pads.weather(0, 0, 0);
        pads.weather(1, 0, 3);
        pads.weather(2, 0, 3);
        pads.jet(1, 0, 1, 0);
        pads.jet(1, 2, 1, 0);
        pads.minutes(1);
        for (int minute = 3; minute < 12; minute++) pads.weather(minute, 0, 0);
        pads.minutes(4);
        Checks.due("begun in fair weather", Checks.about(pads, 0), "2 -900 0 0 0 3 0");
        Checks.due("begun in foul weather", Checks.about(pads, 1), "0 -900 2 5 1 -900 -900");
        pads.minutes(3);
        Checks.due("begun again in fair weather", Checks.about(pads, 1), "2 -900 5 5 1 8 3");
    }

    private static void promise10TurnsBack() {
        IcePads pads = new IcePads();
        pads.fluid(0, 5, 5, 5, 5, 1, 1, 2000);
        pads.jet(1, 0, 4, 0);
        pads.minutes(3);
        Checks.due("turned back", Checks.about(pads, 0), "0 -900 0 6 1 -900 -900");
        Checks.due("free", pads.on(0), NONE);
        pads.minutes(3);
        Checks.due("not before READY", pads.count(7), 1);
        pads.minutes(1);
        Checks.due("again on a pad", Checks.about(pads, 0), "1 0 6 6 1 -900 -900");
        pads.minutes(2);
        Checks.due("turned back twice", Checks.about(pads, 0), "0 -900 6 12 2 -900 -900");
        Checks.due("litres for each", pads.litres(0), 1980);
        Checks.due("turns back", pads.count(8), 2);
    }

    private static void promise11About() {
        IcePads pads = withFluid();
        pads.set(0, 2);
        pads.jet(2, 3, 6, 0);
        pads.jet(1, 3, 7, 0);
        Checks.due("waits", Checks.about(pads, 1), "0 -900 -900 3 0 -900 -900");
        pads.minutes(4);
        Checks.due("on pad 0", Checks.about(pads, 0), "1 0 3 3 0 -900 -900");
        Checks.due("on pad 1", Checks.about(pads, 1), "1 1 3 3 0 -900 -900");
        pads.minutes(4);
        Checks.due("gone", Checks.about(pads, 0), "2 -900 3 3 0 13 0");
        Checks.due("gone", Checks.about(pads, 1), "2 -900 3 3 0 12 0");
    }

    private static void promise11LateCountsFromFirstReady() {
        IcePads pads = new IcePads();
        pads.fluid(0, 30, 3, 3, 3, 1, 1, 2000);
        pads.weather(2, 0, 1);
        pads.weather(20, 0, 0);
        pads.jet(2, 2, 14, 0);
        pads.minutes(20);
        Checks.due("turned back", Checks.about(pads, 0), "0 -900 2 20 1 -900 -900");
        pads.minutes(5);
        Checks.due("flew at last", Checks.about(pads, 0), "2 -900 20 20 1 38 18");
        Checks.due("late of all", pads.count(9), 18);
    }

    private static void promise11Refuses() {
        IcePads pads = withFluid();
        pads.jet(1, 0, 1, 0);
        Checks.due("about(-1, 0)", pads.about(-1, 0), BAD);
        Checks.due("about(1, 0)", pads.about(1, 0), BAD);
        Checks.due("about(12, 0)", pads.about(12, 0), BAD);
        Checks.due("about(0, -1)", pads.about(0, -1), BAD);
        Checks.due("about(0, 7)", pads.about(0, 7), BAD);
    }

    private static void promise12On() {
        IcePads pads = withFluid();
        pads.set(0, 3);
        for (int pad = 0; pad < 3; pad++) Checks.due("free " + pad, pads.on(pad), NONE);
        pads.jet(1, 1, 1, 0);
        pads.jet(2, 0, 1, 0);
        pads.minutes(2);
        Checks.due("on(0)", pads.on(0), 1);
        Checks.due("on(1)", pads.on(1), 0);
        Checks.due("on(2)", pads.on(2), NONE);
        Checks.due("on(3)", pads.on(3), BAD);
        Checks.due("on(-1)", pads.on(-1), BAD);
        pads.minutes(2);
        Checks.due("on(1), left", pads.on(1), NONE);
    }
}
