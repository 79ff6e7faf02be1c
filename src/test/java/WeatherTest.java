/** Promises 2 weather, 3 loses, 4 known. */
public final class WeatherTest {
    private static final int BAD = IcePads.BAD;
    private static final int STATE = IcePads.STATE;

    public static void main(String[] args) {
        promise2Weather();
        promise2Refuses();
        promise3Loses();
        promise3Refuses();
        promise4Known();
        promise4LooksThirtyMinutesBack();
        promise4TakesLeastColdAndGreatestFall();
        promise4Refuses();
        Checks.finish();
    }

    private static void promise2Weather() {
        IcePads pads = new IcePads();
        Checks.due("weather(0, -30, 0)", pads.weather(0, -30, 0), 1);
        Checks.due("weather(299, 5, 3)", pads.weather(299, 5, 3), 1);
        Checks.known(pads, 0, "-30 0 1");
        Checks.known(pads, 299, "5 3 1");
        Checks.due("told again", pads.weather(0, -7, 2), 1);
        Checks.known(pads, 0, "-7 2 1");
        pads.minutes(10);
        Checks.due("weather of NOW", pads.weather(10, -1, 1), 1);
        Checks.known(pads, 10, "-1 1 1");
    }

    private static void promise2Refuses() {
        IcePads pads = new IcePads();
        pads.minutes(10);
        Checks.due("weather(-1, 0, 0)", pads.weather(-1, 0, 0), BAD);
        Checks.due("weather(300, 0, 0)", pads.weather(300, 0, 0), BAD);
        Checks.due("weather(20, -31, 0)", pads.weather(20, -31, 0), BAD);
        Checks.due("weather(20, 6, 0)", pads.weather(20, 6, 0), BAD);
        Checks.due("weather(20, 0, -1)", pads.weather(20, 0, -1), BAD);
        Checks.due("weather(20, 0, 4)", pads.weather(20, 0, 4), BAD);
        Checks.due("weather(9, 0, 0)", pads.weather(9, 0, 0), STATE);
        Checks.due("BAD goes before STATE", pads.weather(9, 6, 0), BAD);
        Checks.known(pads, 20, "0 0 0");
        Checks.known(pads, 9, "0 0 0");
    }

    private static void promise3Loses() {
        IcePads pads = new IcePads();
        Checks.due("loses(4), never told", pads.loses(4), 0);
        pads.weather(4, -3, 1);
        Checks.due("loses(4), told", pads.loses(4), 1);
        Checks.known(pads, 4, "0 0 0");
        Checks.due("loses(4), lost", pads.loses(4), 0);
        pads.weather(4, -4, 2);
        Checks.known(pads, 4, "-4 2 1");
        pads.weather(299, -5, 3);
        Checks.due("loses(299)", pads.loses(299), 1);
        pads.minutes(4);
        Checks.due("loses of NOW", pads.loses(4), 1);
    }

    private static void promise3Refuses() {
        IcePads pads = new IcePads();
        pads.weather(4, -3, 1);
        pads.minutes(5);
        Checks.due("loses(-1)", pads.loses(-1), BAD);
        Checks.due("loses(300)", pads.loses(300), BAD);
        Checks.due("loses(4)", pads.loses(4), STATE);
        Checks.known(pads, 4, "-3 1 1");
    }

    private static void promise4Known() {
        IcePads pads = new IcePads();
        pads.weather(50, -12, 2);
        Checks.known(pads, 50, "-12 2 1");
        Checks.known(pads, 49, "0 0 0");
        Checks.known(pads, 51, "-12 2 0");
        Checks.known(pads, 299, "0 0 0");
        pads.minutes(60);
        Checks.known(pads, 50, "-12 2 1");
    }

    private static void promise4LooksThirtyMinutesBack() {
        IcePads pads = new IcePads();
        pads.weather(50, -12, 2);
        pads.weather(60, -2, 1);
        Checks.known(pads, 59, "-12 2 0");
        Checks.known(pads, 80, "-12 2 0");
        Checks.known(pads, 81, "-2 1 0");
        Checks.known(pads, 90, "-2 1 0");
        Checks.known(pads, 91, "0 0 0");
    }

    private static void promise4TakesLeastColdAndGreatestFall() {
        IcePads pads = new IcePads();
        pads.weather(10, -9, 0);
        pads.weather(12, 5, 3);
        pads.weather(14, -1, 1);
        Checks.known(pads, 15, "-9 3 0");
        Checks.known(pads, 13, "-9 3 0");
        Checks.known(pads, 11, "-9 0 0");
        Checks.known(pads, 14, "-1 1 1");
        Checks.known(pads, 41, "-1 3 0");
        Checks.known(pads, 43, "-1 1 0");
        IcePads warm = new IcePads();
        warm.weather(10, 5, 0);
        warm.weather(11, 3, 0);
        Checks.known(warm, 12, "3 0 0");
        warm.loses(11);
        Checks.known(warm, 11, "5 0 0");
    }

    private static void promise4Refuses() {
        IcePads pads = new IcePads();
        Checks.due("known(-1, 0)", pads.known(-1, 0), BAD);
        Checks.due("known(300, 0)", pads.known(300, 0), BAD);
        Checks.due("known(300, 2)", pads.known(300, 2), BAD);
        Checks.due("known(0, -1)", pads.known(0, -1), BAD);
        Checks.due("known(0, 3)", pads.known(0, 3), BAD);
    }
}
