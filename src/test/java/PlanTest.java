/** Promises 14 plan, 15 count. */
public final class PlanTest {
    private static final int BAD = IcePads.BAD;
    private static final int NONE = IcePads.NONE;

    public static void main(String[] args) {
        promise14Empty();
        promise14ShortOnesFirst();
        promise14WaitsForWhatIsReady();
        promise14FirstByNumbersOfLikeOrders();
        promise14FiveAtMostAndOnlyWhatWaits();
        promise14BeginsNow();
        promise14LooksNotAtPadsTanksAndDrain();
        promise14LateFromFirstReady();
        promise14IsOfTheMoment();
        promise14AsksOfPlacesAlone();
        promise14Refuses();
        promise15Count();
        promise15Refuses();
        Checks.finish();
    }

    private static IcePads withFluid() {
        IcePads pads = new IcePads();
        pads.fluid(0, 100, 100, 100, 100, 1, 1, 2000);
        return pads;
    }

    private static void promise14Empty() {
        IcePads pads = withFluid();
        Checks.due("no jets", Checks.plan(pads), "0: = 0");
        for (int i = 0; i < 5; i++) Checks.due("place " + i, pads.plan(1, i), NONE);
    }

    private static void promise14ShortOnesFirst() {
        IcePads pads = withFluid();
        pads.jet(5, 0, 1, 0);
        pads.jet(3, 0, 20, 0);
        pads.jet(4, 0, 1, 0);
        pads.jet(1, 0, 5, 0);
        pads.jet(2, 0, 1, 0);
        Checks.due("shortest first", Checks.plan(pads), "5: 3 4 1 2 0 = " + (2 + 6 + 12 + 20));
    }

    private static void promise14WaitsForWhatIsReady() {
        IcePads pads = withFluid();
        pads.jet(5, 0, 1, 0);
        pads.jet(1, 1, 1, 0);
        Checks.due("rather waits a minute", Checks.plan(pads), "2: 1 0 = 3");
        IcePads later = withFluid();
        later.jet(1, 20, 1, 0);
        later.jet(5, 0, 1, 0);
        Checks.due("no lateness at all", Checks.plan(later), "2: 1 0 = 0");
    }

    private static void promise14FirstByNumbersOfLikeOrders() {
        IcePads pads = withFluid();
        for (int i = 0; i < 4; i++) pads.jet(2, 0, 4 - i, 0);
        Checks.due("all alike", Checks.plan(pads), "4: 0 1 2 3 = 24");
        IcePads two = withFluid();
        two.jet(2, 4, 1, 0);
        two.jet(2, 0, 1, 0);
        two.jet(2, 4, 1, 0);
        Checks.due("two alike", Checks.plan(two), "3: 1 0 2 = 4");
    }

    private static void promise14FiveAtMostAndOnlyWhatWaits() {
        IcePads pads = withFluid();
        for (int i = 0; i < 7; i++) pads.jet(5 - i % 5, 0, 1, 0);
        Checks.due("the first five", Checks.plan(pads), "5: 4 3 2 1 0 = " + (2 + 6 + 12 + 20));
        pads.minutes(1);
        Checks.due("0 is on a pad", Checks.plan(pads), "5: 4 3 2 1 5 = " + (1 + 3 + 7 + 13 + 21));
    }

    private static void promise14BeginsNow() {
        IcePads pads = withFluid();
        pads.fill(0, 0);
        pads.jet(2, 0, 1, 0);
        pads.jet(1, 3, 1, 0);
        pads.minutes(10);
        Checks.due("from NOW on", Checks.plan(pads), "2: 1 0 = " + (10 - 3 + 12));
    }

    private static void promise14LooksNotAtPadsTanksAndDrain() {
        IcePads pads = withFluid();
        pads.set(0, 3);
        pads.set(1, 10);
        pads.fill(0, 0);
        pads.jet(2, 0, 1, 0);
        pads.jet(2, 0, 1, 0);
        Checks.due("one pad, enough of all", Checks.plan(pads), "2: 0 1 = 4");
    }

    private static void promise14LateFromFirstReady() {
        IcePads pads = new IcePads();
        pads.fluid(0, 1, 1, 1, 1, 1, 1, 10);
        pads.jet(1, 1, 6, 0);
        pads.minutes(5);
        Checks.due("turned back", Checks.about(pads, 0), "0 -900 1 9 1 -900 -900");
        Checks.due("READY in 9, first in 1", Checks.plan(pads), "1: 0 = 8");
        pads.jet(2, 6, 1, 0);
        Checks.due("with one more", Checks.plan(pads), "2: 1 0 = 9");
    }

    private static void promise14IsOfTheMoment() {
        IcePads pads = withFluid();
        pads.jet(3, 0, 1, 0);
        Checks.due("one", Checks.plan(pads), "1: 0 = 0");
        pads.jet(1, 0, 1, 0);
        Checks.due("two", Checks.plan(pads), "2: 1 0 = 2");
        pads.minutes(1);
        Checks.due("one is on a pad", Checks.plan(pads), "1: 1 = 1");
        pads.minutes(20);
        Checks.due("all are gone", Checks.plan(pads), "0: = 0");
        Checks.due("no place kept", pads.plan(1, 0), NONE);
    }

    private static void promise14AsksOfPlacesAlone() {
        int[] noPlaces = {-1, 5, 6, -100, Integer.MIN_VALUE, Integer.MAX_VALUE};
        IcePads empty = new IcePads();
        IcePads pads = withFluid();
        pads.jet(3, 0, 1, 0);
        pads.jet(1, 0, 1, 0);
        for (int i : noPlaces) {
            Checks.due("size of none, i = " + i, empty.plan(0, i), 0);
            Checks.due("lates of none, i = " + i, empty.plan(2, i), 0);
            Checks.due("size of two, i = " + i, pads.plan(0, i), 2);
            Checks.due("lates of two, i = " + i, pads.plan(2, i), 2);
            Checks.due("no place, i = " + i, pads.plan(1, i), BAD);
            Checks.due("no such what, i = " + i, pads.plan(3, i), BAD);
        }
        for (int i = 0; i < 5; i++) {
            Checks.due("size, i = " + i, pads.plan(0, i), 2);
            Checks.due("lates, i = " + i, pads.plan(2, i), 2);
        }
    }

    private static void promise14Refuses() {
        IcePads pads = withFluid();
        pads.jet(3, 0, 1, 0);
        Checks.due("plan(-1, 0)", pads.plan(-1, 0), BAD);
        Checks.due("plan(3, 0)", pads.plan(3, 0), BAD);
        Checks.due("plan(1, -1)", pads.plan(1, -1), BAD);
        Checks.due("plan(1, 5)", pads.plan(1, 5), BAD);
        Checks.due("plan(1, 4)", pads.plan(1, 4), NONE);
        Checks.due("plan(1, 1)", pads.plan(1, 1), NONE);
    }

    private static void promise15Count() {
        IcePads pads = new IcePads();
        pads.fluid(0, 100, 100, 100, 100, 1, 1, 2000);
        pads.fluid(0, 1, 1, 1, 1, 1, 1, 20);
        pads.set(0, 2);
        pads.jet(1, 0, 1, 0);
        pads.jet(2, 0, 1, 1);
        pads.jet(3, 0, 2, 0);
        pads.jet(5, 90, 2, 0);
        Checks.due("at first", Checks.counts(pads), "0 2 2 4 4 0 0 0 0 0");
        pads.minutes(1);
        Checks.due("two begun", Checks.counts(pads), "1 2 2 4 2 0 24 2 0 0");
        pads.minutes(2);
        Checks.due("one gone", Checks.counts(pads), "3 2 2 4 1 1 38 3 0 0");
        pads.minutes(2);
        Checks.due("one turned back", Checks.counts(pads), "5 2 2 4 2 1 28 3 1 0");
        pads.minutes(4);
        Checks.due("one more gone", Checks.counts(pads), "9 2 2 4 2 2 8 3 1 2");
    }

    private static void promise15Refuses() {
        IcePads pads = new IcePads();
        Checks.due("count(-1)", pads.count(-1), BAD);
        Checks.due("count(10)", pads.count(10), BAD);
    }
}
