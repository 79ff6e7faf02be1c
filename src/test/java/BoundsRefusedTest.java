import java.util.function.Supplier;

/**
 * "Refused, and nothing changes, the first of these: BAD (a number is not as told, or there is no such thing),
 * STATE (as told), FULL": of two that apply at once the first; numbers as far out as there are.
 */
public final class BoundsRefusedTest {
    private static final int BAD = IcePads.BAD;
    private static final int STATE = IcePads.STATE;
    private static final int FULL = IcePads.FULL;
    private static final int[] FAR_OUT = {
        Integer.MIN_VALUE, Integer.MIN_VALUE + 1, -1_000_000, 1_000_000, Integer.MAX_VALUE - 1, Integer.MAX_VALUE};

    public static void main(String[] args) {
        Cases.runAll(BoundsRefusedTest.class);
    }

    // ---- BAD goes before STATE

    static void weatherIsBadBeforeTheMinuteIsAheadOfNow() {
        Cases.refused(Runs::busy, STATE, "weather", 11, 0, 0);
        Cases.refused(Runs::busy, BAD, "weather", 11, -31, 0);
        Cases.refused(Runs::busy, BAD, "weather", 11, 6, 0);
        Cases.refused(Runs::busy, BAD, "weather", 11, 0, -1);
        Cases.refused(Runs::busy, BAD, "weather", 11, 0, 4);
    }

    static void aMinuteBelow0IsBadThoughAheadOfNow() {
        Cases.refused(Runs::busy, BAD, "weather", -1, 0, 0);
        Cases.refused(Runs::busy, BAD, "loses", -1);
    }

    static void padsAreBadBeforeOneIsNotFree() {
        Cases.refused(Runs::busy, STATE, "set", 0, 1);
        Cases.refused(Runs::busy, BAD, "set", 0, 0);
        Cases.refused(Runs::busy, STATE, "set", 0, 3);
        Cases.refused(Runs::busy, BAD, "set", 0, 4);
    }

    static void minutesAreBadBeforeNowWouldBeAbove299() {
        Cases.refused(Runs::last, STATE, "minutes", 1);
        Cases.refused(Runs::last, BAD, "minutes", 0);
        Cases.refused(Runs::last, STATE, "minutes", 60);
        Cases.refused(Runs::last, BAD, "minutes", 61);
    }

    // ---- BAD goes before FULL

    static void aFluidIsBadBeforeAllPlacesAreTaken() {
        Call fine = new Call("fluid", 2, 9, 8, 7, 6, 1, 1, 5);
        int[][] wrong = {
            {0, -1}, {0, 3}, {1, 101}, {2, 10}, {3, 9}, {4, 8}, {4, -1},
            {5, 0}, {5, 5}, {6, 0}, {6, 11}, {7, -1}, {7, 2001}};
        badBeforeFull(fine, wrong);
    }

    static void whatIsNotLookedAtIsFullNotBad() {
        Cases.refused(Runs::full, FULL, "fluid", 0, 9, 8, 7, 6, 0, 0, 5);
        Cases.refused(Runs::full, FULL, "fluid", 1, 9, 8, 7, 6, 1, 11, 5);
    }

    static void aJetIsBadBeforeAllPlacesAreTaken() {
        Call fine = new Call("jet", 1, 5, 1, 0);
        int[][] wrong = {{0, 0}, {0, 6}, {1, 4}, {1, -1}, {1, 300}, {2, 0}, {2, 21}, {3, -1}, {3, 4}};
        badBeforeFull(fine, wrong);
    }

    // ---- numbers far out

    static void weatherFarOut() {
        farOut(Runs::busy, new Call("weather", 20, 0, 0));
    }

    static void losesFarOut() {
        farOut(Runs::busy, new Call("loses", 40));
    }

    static void knownFarOut() {
        farOut(Runs::busy, new Call("known", 40, 0));
    }

    static void fluidFarOut() {
        farOut(Runs::busy, new Call("fluid", 2, 9, 8, 7, 6, 1, 1, 5));
    }

    static void holdFarOut() {
        farOut(Runs::busy, new Call("hold", 0, 0));
    }

    static void fillFarOut() {
        farOut(Runs::busy, new Call("fill", 0, 10));
    }

    static void setFarOut() {
        farOut(Runs::busy, new Call("set", 0, 1));
        farOut(Runs::busy, new Call("set", 1, 100));
        farOut(Runs::busy, new Call("set", 2, 10));
    }

    static void jetFarOut() {
        farOut(Runs::busy, new Call("jet", 1, 20, 1, 0));
    }

    static void minutesFarOut() {
        farOut(Runs::busy, new Call("minutes", 1));
        farOut(Runs::last, new Call("minutes", 1));
    }

    static void aboutFarOut() {
        farOut(Runs::busy, new Call("about", 0, 0));
    }

    static void onFarOut() {
        farOut(Runs::busy, new Call("on", 0));
    }

    static void litresFarOut() {
        farOut(Runs::busy, new Call("litres", 0));
    }

    static void planFarOut() {
        farOut(Runs::busy, new Call("plan", 1, 0));
    }

    static void countFarOut() {
        farOut(Runs::busy, new Call("count", 0));
    }

    /** A number cut to fewer bits would be a fine one. */
    static void numbersThatAreAlikeInTheirLastBits() {
        int[] apart = {1 << 8, 1 << 16, 1 << 30, Integer.MIN_VALUE};
        for (int bits : apart) {
            Cases.refused(Runs::busy, BAD, "weather", 100 + bits, 0, 0);
            Cases.refused(Runs::busy, BAD, "hold", bits, 0);
            Cases.refused(Runs::busy, BAD, "about", bits, 0);
            Cases.refused(Runs::busy, BAD, "minutes", 1 + bits);
            Cases.refused(Runs::busy, BAD, "count", bits);
        }
    }

    // ---- calls that are not refused, and only look

    static void lookingChangesNothing() {
        Call[] looks = {
            new Call("known", 41, 0), new Call("about", 1, 3), new Call("on", 0), new Call("litres", 2),
            new Call("plan", 0, 0), new Call("plan", 1, 2), new Call("plan", 2, 0), new Call("count", 9), new Call("trace")};
        for (Call look : looks) Cases.changesNothing(Runs::busy, look.on(Runs.busy()), look);
    }

    // ---- the runs themselves, and an object's last call

    static void theBusyRunIsAsItIsTold() {
        IcePads pads = Runs.busy();
        Checks.due("0 is GONE", pads.about(0, 0), 2);
        Checks.due("1 WAITS, turned back", pads.about(1, 0) + " " + pads.about(1, 4), "0 1");
        Checks.due("2 is on PAD 0", pads.about(2, 0) + " " + pads.about(2, 1), "1 0");
        Checks.due("3 WAITS and is not READY", pads.about(3, 0) + " " + pads.about(3, 3), "0 50");
        Checks.due("4 WAITS and has too few LITRES", pads.about(4, 0) + " " + pads.litres(1), "0 49");
        Checks.due("NOW", pads.count(0), 12);
    }

    static void theFullRunIsAsItIsTold() {
        IcePads pads = Runs.full();
        Checks.due("FLUIDS, PADS, JETS", pads.count(1) + " " + pads.count(2) + " " + pads.count(3), "4 3 12");
        Checks.due("NOW", pads.count(0), 5);
    }

    static void theLastRunIsAsItIsTold() {
        IcePads pads = Runs.last();
        Checks.due("a JET is on a PAD", pads.about(5, 0), 1);
        Checks.due("one WAITS", pads.about(6, 0), 0);
        Checks.due("NOW", pads.count(0), 299);
    }

    static void anObjectAnswers512Calls() {
        IcePads pads = Runs.plenty();
        for (int i = 2; i < 510; i++) pads.hold(0, i % 300);
        Checks.due("the 510th call", pads.jet(1, 0, 1, 0), 0);
        Checks.due("the 511th call", pads.minutes(60), 60);
        Checks.due("the 512th call", pads.trace(), 508);
    }

    /** The call is FULL as it stands; with one of its numbers wrong it is BAD. */
    private static void badBeforeFull(Call fine, int[][] wrong) {
        Cases.changesNothing(Runs::full, FULL, fine);
        for (int[] placeAndNumber : wrong) {
            Cases.changesNothing(Runs::full, BAD, fine.with(placeAndNumber[0], placeAndNumber[1]));
        }
    }

    /** Each number of the call in turn is far out, and the call BAD. */
    private static void farOut(Supplier<IcePads> run, Call fine) {
        for (int place = 0; place < fine.places(); place++) {
            for (int number : FAR_OUT) Cases.changesNothing(run, BAD, fine.with(place, number));
        }
    }
}
