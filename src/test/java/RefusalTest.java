/** Refused, and nothing changes: a run with a refused call in it ends as the run without it. */
public final class RefusalTest {
    private static final int BAD = IcePads.BAD;
    private static final int STATE = IcePads.STATE;
    private static final int FULL = IcePads.FULL;

    /** Each row: the answer due, the call's place in call(), its arguments. */
    private static final int[][] REFUSED = {
        {BAD, 0, 300, 0, 0}, {BAD, 0, 20, 6, 0}, {BAD, 0, 20, 0, 4}, {STATE, 0, 4, -20, 3},
        {BAD, 1, 300}, {BAD, 1, -1}, {STATE, 1, 4},
        {BAD, 2, 300, 0}, {BAD, 2, 0, 3},
        {BAD, 3, 0, 9, 9, 9, 10, 1, 1, 10}, {FULL, 3, 0, 9, 9, 9, 9, 1, 1, 10},
        {BAD, 4, 4, 0}, {BAD, 4, 0, 300}, {BAD, 4, -1, 0},
        {BAD, 5, 4, 10}, {BAD, 5, 0, 2001}, {BAD, 5, 0, -1},
        {BAD, 6, 0, 4}, {BAD, 6, 1, 9}, {BAD, 6, 2, 51}, {BAD, 6, 3, 1}, {STATE, 6, 0, 3}, {STATE, 6, 0, 1},
        {BAD, 7, 0, 5, 1, 0}, {BAD, 7, 1, 4, 1, 0}, {BAD, 7, 1, 300, 1, 0}, {BAD, 7, 1, 5, 21, 0},
        {BAD, 7, 1, 5, 1, 4}, {FULL, 7, 1, 5, 1, 0},
        {BAD, 8, 0}, {BAD, 8, 61}, {BAD, 8, -1},
        {BAD, 9, 12, 0}, {BAD, 9, 0, 7}, {BAD, 10, 2}, {BAD, 10, -1}, {BAD, 11, 4},
        {BAD, 12, 3, 0}, {BAD, 12, 1, 5}, {BAD, 13, 10}};

    public static void main(String[] args) {
        String untouched = after(made());
        for (int[] row : REFUSED) {
            IcePads pads = made();
            String name = java.util.Arrays.toString(row);
            Checks.due("refused " + name, call(pads, row), row[0]);
            Checks.due("the run after " + name, after(pads), untouched);
        }
        lateMinutesAreRefused();
        Checks.finish();
    }

    /** Four fluids, twelve jets, weather with gaps, two pads, one of them taken, NOW is 5. */
    private static IcePads made() {
        IcePads pads = new IcePads();
        pads.set(0, 2);
        pads.fluid(0, 12, 9, 6, 3, 1, 1, 600);
        pads.fluid(1, 12, 9, 6, 3, 2, 1, 600);
        pads.fluid(2, 40, 30, 20, 10, 3, 5, 600);
        pads.fluid(0, 2, 2, 2, 2, 1, 1, 60);
        pads.weather(0, -3, 1);
        pads.weather(4, -12, 0);
        pads.weather(20, -5, 2);
        for (int i = 0; i < 12; i++) pads.jet(1 + i % 5, 3 * i % 13, 1 + i, i % 4);
        pads.minutes(5);
        pads.hold(2, 3);
        return pads;
    }

    private static void lateMinutesAreRefused() {
        IcePads pads = new IcePads();
        for (int i = 0; i < 4; i++) pads.minutes(60);
        Checks.due("minutes(60) to 300", pads.minutes(60), STATE);
        Checks.due("counts", Checks.counts(pads), "240 0 1 0 0 0 0 0 0 0");
        Checks.due("minutes(59) to 299", pads.minutes(59), 299);
    }

    private static long call(IcePads pads, int[] row) {
        switch (row[1]) {
            case 0: return pads.weather(row[2], row[3], row[4]);
            case 1: return pads.loses(row[2]);
            case 2: return pads.known(row[2], row[3]);
            case 3: return pads.fluid(row[2], row[3], row[4], row[5], row[6], row[7], row[8], row[9]);
            case 4: return pads.hold(row[2], row[3]);
            case 5: return pads.fill(row[2], row[3]);
            case 6: return pads.set(row[2], row[3]);
            case 7: return pads.jet(row[2], row[3], row[4], row[5]);
            case 8: return pads.minutes(row[2]);
            case 9: return pads.about(row[2], row[3]);
            case 10: return pads.on(row[2]);
            case 11: return pads.litres(row[2]);
            case 12: return pads.plan(row[2], row[3]);
            default: return pads.count(row[2]);
        }
    }

    /** What can be seen now and after some minutes, in fewer calls than an object has left. */
    private static String after(IcePads pads) {
        StringBuilder text = new StringBuilder(View.now(pads));
        pads.minutes(40);
        text.append(View.now(pads));
        for (int minute = 0; minute < 25; minute++) {
            text.append(pads.known(minute, 0)).append(' ').append(pads.known(minute, 1)).append(' ');
            text.append(pads.known(minute, 2)).append('\n');
        }
        text.append(pads.set(1, 200)).append(' ').append(pads.set(2, 5)).append(' ').append(pads.trace());
        return text.toString();
    }
}
