/** Runs of calls that make the objects of the boundary cases; each leaves some 480 of an object's 512 calls. */
final class Runs {
    private Runs() {
    }

    static IcePads fresh() {
        return new IcePads();
    }

    /** One THIN FLUID that holds so long in every MINUTE of which nothing is told, and has so many LITRES. */
    static IcePads thin(int hold, int litres) {
        IcePads pads = new IcePads();
        pads.fluid(0, hold, hold, hold, hold, 1, 1, litres);
        return pads;
    }

    static IcePads plenty() {
        return thin(100, 2000);
    }

    /**
     * Three FLUIDS, one of each KIND; two PADS; five JETS: 0 is GONE, 1 WAITS, turned back, 2 is on PAD 0,
     * 3 WAITS and is not READY, 4 WAITS and has too few LITRES; WEATHER with gaps; NOW is 12.
     */
    static IcePads busy() {
        IcePads pads = new IcePads();
        pads.set(0, 2);
        pads.weather(0, -3, 1);
        pads.weather(4, -12, 0);
        pads.weather(40, -5, 2);
        pads.fluid(0, 12, 9, 6, 3, 1, 1, 600);
        pads.fluid(1, 14, 11, 8, 5, 2, 1, 49);
        pads.fluid(2, 40, 30, 20, 10, 3, 5, 700);
        pads.jet(1, 0, 1, 0);
        pads.jet(1, 0, 20, 0);
        pads.jet(5, 6, 2, 2);
        pads.jet(2, 50, 3, 0);
        pads.jet(5, 1, 4, 1);
        pads.minutes(12);
        pads.hold(2, 3);
        return pads;
    }

    /** Four FLUIDS, twelve JETS, three PADS; NOW is 5. */
    static IcePads full() {
        IcePads pads = new IcePads();
        pads.set(0, 3);
        pads.weather(2, -11, 2);
        pads.fluid(0, 12, 9, 6, 3, 1, 1, 600);
        pads.fluid(1, 12, 9, 6, 3, 2, 1, 600);
        pads.fluid(2, 40, 30, 20, 10, 3, 5, 600);
        pads.fluid(0, 2, 2, 2, 2, 1, 1, 60);
        for (int i = 0; i < 12; i++) pads.jet(1 + i % 5, 3 * i % 13, 1 + i, i % 4);
        pads.minutes(5);
        return pads;
    }

    /** As busy, one JET more, READY in the last MINUTE; NOW is 299, the last one. */
    static IcePads last() {
        IcePads pads = busy();
        pads.weather(290, -9, 1);
        pads.jet(5, 296, 9, 0);
        pads.jet(1, 299, 1, 0);
        to(pads, 299);
        return pads;
    }

    /** Lets MINUTES go until NOW is the one that is named; five calls take NOW from 0 to 299. */
    static void to(IcePads pads, int minute) {
        for (int i = 0; i < 5 && pads.count(0) < minute; i++) pads.minutes(Math.min(60, minute - pads.count(0)));
    }
}
