/** Counts the answers that are not the ones due; a test's main ends with finish(). */
final class Checks {
    private static int asked;
    private static int wrong;

    private Checks() {
    }

    static void due(String call, long got, long want) {
        asked++;
        if (got == want) return;
        wrong++;
        System.out.println(call + " answered " + got + ", due is " + want);
    }

    static void due(String what, String got, String want) {
        asked++;
        if (got.equals(want)) return;
        wrong++;
        System.out.println(what + " is " + got + ", due is " + want);
    }

    /** COLD and FALL that are KNOWN of a MINUTE, and whether it was told. */
    static void known(IcePads pads, int minute, String want) {
        String got = pads.known(minute, 0) + " " + pads.known(minute, 1) + " " + pads.known(minute, 2);
        due("known of " + minute, got, want);
    }

    /** The answers of about(jet, 0 .. 6) in one text. */
    static String about(IcePads pads, int jet) {
        StringBuilder text = new StringBuilder();
        for (int what = 0; what < 7; what++) text.append(what == 0 ? "" : " ").append(pads.about(jet, what));
        return text.toString();
    }

    /** The answers of count(0 .. 9) in one text. */
    static String counts(IcePads pads) {
        StringBuilder text = new StringBuilder();
        for (int what = 0; what < 10; what++) text.append(what == 0 ? "" : " ").append(pads.count(what));
        return text.toString();
    }

    /** How many jets the plan has, the jets in their order, and what they are late. */
    static String plan(IcePads pads) {
        StringBuilder text = new StringBuilder();
        text.append(pads.plan(0, 0)).append(':');
        for (int i = 0; i < 5; i++) {
            int jet = pads.plan(1, i);
            if (jet != IcePads.NONE) text.append(' ').append(jet);
        }
        return text.append(" = ").append(pads.plan(2, 0)).toString();
    }

    static int wrong() {
        return wrong;
    }

    static void finish() {
        System.out.println(wrong == 0 ? asked + " answers as due" : wrong + " of " + asked + " answers not as due");
        if (wrong != 0) System.exit(1);
    }
}
