import java.util.List;
import java.util.function.Function;

/**
 * All that can be seen of an object. One object has too few calls for it, so it comes in parts,
 * each for an object of its own that was made by the same run.
 */
final class View {
    static final List<Function<IcePads, String>> PARTS = List.of(
            pads -> sky(pads, 0), pads -> sky(pads, 1), pads -> sky(pads, 2), View::things, View::later);

    private View() {
    }

    private static String sky(IcePads pads, int what) {
        StringBuilder text = new StringBuilder();
        for (int minute = 0; minute < 300; minute++) text.append(pads.known(minute, what)).append(' ');
        return text.toString();
    }

    /** What is asked for without a change, then what shows by a change alone: the fluids' make and the settings. */
    private static String things(IcePads pads) {
        StringBuilder text = new StringBuilder(now(pads));
        int[] minutes = {0, 20, 110, 299};
        for (int fluid = 0; fluid < 4; fluid++) {
            for (int minute : minutes) text.append(pads.hold(fluid, minute)).append(' ');
            text.append(pads.trace()).append('\n');
        }
        text.append(pads.set(1, 10)).append(' ').append(pads.set(2, 50)).append(' ').append(pads.set(0, 1));
        return text.toString();
    }

    private static String later(IcePads pads) {
        int[] steps = {1, 8, 40};
        StringBuilder text = new StringBuilder();
        for (int n : steps) text.append(pads.minutes(n)).append('\n').append(now(pads)).append('\n');
        return text.toString();
    }

    /** What can be asked for in this moment without a change. */
    static String now(IcePads pads) {
        StringBuilder text = new StringBuilder();
        text.append(Checks.counts(pads)).append('\n').append(Checks.plan(pads)).append('\n');
        for (int jet = 0; jet < 12; jet++) text.append(Checks.about(pads, jet)).append('\n');
        for (int fluid = 0; fluid < 4; fluid++) text.append(pads.litres(fluid)).append(' ');
        for (int pad = 0; pad < 3; pad++) text.append(pads.on(pad)).append(' ');
        return text.append(pads.trace()).append('\n').toString();
    }
}
