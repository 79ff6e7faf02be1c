/** Jets freed of ice on pads before they fly; ../shared/DOC.md says what every call answers. */
public final class IcePads {
    public static final int BAD = -100, STATE = -200, FULL = -300, NONE = -900;

    private static final int MINUTES = 300;
    private static final int MOST_FLUIDS = 4;
    private static final int MOST_PADS = 3;
    private static final int MOST_JETS = 12;
    private static final int MOST_PLANNED = 5;
    private static final int MOST_LITRES = 2000;

    private final Sky sky;
    private final Fluid[] fluids;
    private int fluidCount;
    private final Jet[] jets;
    private int jetCount;
    /** The jet on each pad; null where the pad is free. */
    private final Jet[] pads;
    private int padCount;
    private final Planner planner;
    private int now;
    private int limit;
    private int rate;
    private int drain;
    private int begun;
    private long traced;

    public IcePads() {
        sky = new Sky();
        fluids = new Fluid[MOST_FLUIDS];
        jets = new Jet[MOST_JETS];
        pads = new Jet[MOST_PADS];
        planner = new Planner();
        padCount = 1;
        limit = 200;
        rate = 5;
    }

    // ---- weather, fluids

    public int weather(int minute, int cold, int fall) {
        if (!isMinute(minute) || !within(cold, -30, 5) || !within(fall, 0, 3)) return BAD;
        if (minute < now) return STATE;
        sky.tell(minute, cold, fall);
        return 1;
    }

    public int loses(int minute) {
        if (!isMinute(minute)) return BAD;
        if (minute < now) return STATE;
        int was = oneIf(sky.isTold(minute));
        sky.lose(minute);
        return was;
    }

    public int known(int minute, int what) {
        if (!isMinute(minute)) return BAD;
        switch (what) {
            case 0: return sky.coldIn(minute);
            case 1: return sky.fallIn(minute);
            case 2: return oneIf(sky.isTold(minute));
            default: return BAD;
        }
    }

    public int fluid(int kind, int a, int b, int c, int d, int times, int parts, int litres) {
        if (!within(kind, Fluid.THIN, Fluid.MIXED) || !areSpans(a, b, c, d)) return BAD;
        if (kind != Fluid.THIN && !within(times, 1, 4)) return BAD;
        if (kind == Fluid.MIXED && !within(parts, 1, 10)) return BAD;
        if (!within(litres, 0, MOST_LITRES)) return BAD;
        if (fluidCount >= fluids.length) return FULL;
        int number = fluidCount;
        int[] spans = {a, b, c, d};
        fluids[number] = new Fluid(kind, spans, times, parts, litres);
        fluidCount++;
        return number;
    }

    public int hold(int fluid, int minute) {
        Fluid asked = fluidAt(fluid);
        if (asked == null || !isMinute(minute)) return BAD;
        traced += asked.traceOfBodies();
        return holdIn(asked, minute);
    }

    public int fill(int fluid, int n) {
        Fluid filled = fluidAt(fluid);
        if (filled == null || !within(n, 0, MOST_LITRES)) return BAD;
        int was = filled.litresLeft;
        filled.litresLeft = n;
        return was;
    }

    // ---- pads, jets

    public int set(int what, int v) {
        switch (what) {
            case 0: return changePads(v);
            case 1: return changeLimit(v);
            case 2: return changeRate(v);
            default: return BAD;
        }
    }

    public int jet(int size, int ready, int roll, int fluid) {
        Fluid wanted = fluidAt(fluid);
        if (wanted == null || !within(size, 1, 5) || !within(roll, 1, 20)) return BAD;
        if (!isMinute(ready) || ready < now) return BAD;
        if (jetCount >= jets.length) return FULL;
        int number = jetCount;
        jets[number] = new Jet(number, size, ready, roll, wanted);
        jetCount++;
        return number;
    }

    public int minutes(int n) {
        if (!within(n, 1, 60)) return BAD;
        if (now + n >= MINUTES) return STATE;
        for (int i = 0; i < n; i++) passMinute();
        return now;
    }

    public int about(int jet, int what) {
        Jet asked = jetAt(jet);
        if (asked == null) return BAD;
        switch (what) {
            case 0: return asked.state();
            case 1: return asked.pad;
            case 2: return asked.start;
            case 3: return asked.ready;
            case 4: return asked.turnsBack;
            case 5: return asked.flew;
            case 6: return asked.isGone() ? asked.late() : NONE;
            default: return BAD;
        }
    }

    public int on(int pad) {
        if (!within(pad, 0, padCount - 1)) return BAD;
        Jet treated = pads[pad];
        return treated == null ? NONE : treated.number;
    }

    public int litres(int fluid) {
        Fluid asked = fluidAt(fluid);
        return asked == null ? BAD : asked.litresLeft;
    }

    // ---- the plan

    public int plan(int what, int i) {
        if (!within(what, 0, 2)) return BAD;
        // The document tells of a place for what = 1 alone: the other two ask nothing of i.
        if (what == 1 && !within(i, 0, MOST_PLANNED - 1)) return BAD;
        planner.gather(jets);
        if (what == 0) return planner.size;
        planner.search(now);
        return what == 1 ? planner.numberAt(i) : planner.least;
    }

    public int count(int what) {
        switch (what) {
            case 0: return now;
            case 1: return fluidCount;
            case 2: return padCount;
            case 3: return jetCount;
            case 4: return jetsIn(Jet.WAITS);
            case 5: return jetsIn(Jet.GONE);
            case 6: return drain;
            case 7: return begun;
            case 8: return allTurnsBack();
            case 9: return allLate();
            default: return BAD;
        }
    }

    public long trace() {
        return traced;
    }

    // ---- what is asked of numbers

    private static boolean within(int n, int least, int most) {
        return n >= least && n <= most;
    }

    private static boolean isMinute(int minute) {
        return within(minute, 0, MINUTES - 1);
    }

    private static boolean areSpans(int a, int b, int c, int d) {
        return a <= 100 && b <= a && c <= b && d <= c && d >= 0;
    }

    private static int oneIf(boolean yes) {
        return yes ? 1 : 0;
    }

    private Fluid fluidAt(int number) {
        return within(number, 0, fluids.length - 1) ? fluids[number] : null;
    }

    private Jet jetAt(int number) {
        return within(number, 0, jets.length - 1) ? jets[number] : null;
    }

    private int holdIn(Fluid fluid, int minute) {
        return fluid.holds(sky.coldIn(minute), sky.fallIn(minute));
    }

    // ---- settings

    private int changePads(int v) {
        if (!within(v, 1, MOST_PADS)) return BAD;
        if (jetsIn(Jet.ON_PAD) > 0) return STATE;
        int was = padCount;
        padCount = v;
        return was;
    }

    private int changeLimit(int v) {
        if (!within(v, 10, 1000)) return BAD;
        int was = limit;
        limit = v;
        return was;
    }

    private int changeRate(int v) {
        if (!within(v, 0, 50)) return BAD;
        int was = rate;
        rate = v;
        return was;
    }

    // ---- how a minute goes

    private void passMinute() {
        drain = Math.max(0, drain - rate);
        // No pad begins before all have ended: the document's steps go over all pads in turn.
        for (int pad = 0; pad < padCount; pad++) endOn(pad);
        for (int pad = 0; pad < padCount; pad++) beginOn(pad);
        now++;
    }

    private void endOn(int pad) {
        Jet treated = pads[pad];
        if (treated == null || now < treated.start + treated.treatment()) return;
        pads[pad] = null;
        treated.leave(now);
    }

    private void beginOn(int pad) {
        if (pads[pad] != null) return;
        Jet next = nextToBegin();
        if (next == null) return;
        next.fluid.litresLeft -= next.litresNeeded();
        drain += next.drainNeeded();
        begun++;
        pads[pad] = next;
        next.begin(pad, now, holdIn(next.fluid, now));
    }

    private Jet nextToBegin() {
        Jet first = null;
        for (int i = 0; i < jetCount; i++) {
            Jet jet = jets[i];
            if (jet == null || !mayBegin(jet)) continue;
            if (first == null || jet.ready < first.ready) first = jet;
        }
        return first;
    }

    private boolean mayBegin(Jet jet) {
        return jet.state() == Jet.WAITS
                && jet.ready <= now
                && jet.fluid.litresLeft >= jet.litresNeeded()
                && drain + jet.drainNeeded() <= limit;
    }

    // ---- sums over the jets

    private int jetsIn(int state) {
        int found = 0;
        for (int i = 0; i < jetCount; i++) {
            Jet jet = jets[i];
            if (jet != null && jet.state() == state) found++;
        }
        return found;
    }

    private int allTurnsBack() {
        int sum = 0;
        for (int i = 0; i < jetCount; i++) {
            Jet jet = jets[i];
            if (jet != null) sum += jet.turnsBack;
        }
        return sum;
    }

    private int allLate() {
        int sum = 0;
        for (int i = 0; i < jetCount; i++) {
            Jet jet = jets[i];
            if (jet != null && jet.isGone()) sum += jet.late();
        }
        return sum;
    }

    /** The weather by minutes, and what is known of a minute of which none was told. */
    private static final class Sky {
        private static final int LOOK_BACK = 30;

        private final int[] cold = new int[MINUTES];
        private final int[] fall = new int[MINUTES];
        private final boolean[] told = new boolean[MINUTES];

        boolean isTold(int minute) {
            return minute >= 0 && minute < told.length && told[minute];
        }

        void tell(int minute, int itsCold, int itsFall) {
            if (!isMinute(minute)) return;
            cold[minute] = itsCold;
            fall[minute] = itsFall;
            told[minute] = true;
        }

        void lose(int minute) {
            if (isMinute(minute)) told[minute] = false;
        }

        int coldIn(int minute) {
            if (isTold(minute)) return cold[minute];
            boolean any = false;
            int least = 0;
            for (int back = 1; back <= LOOK_BACK; back++) {
                int earlier = minute - back;
                if (!isTold(earlier)) continue;
                // The first one found is taken as it is: a least of 0 would hide colds above 0.
                least = any ? Math.min(least, cold[earlier]) : cold[earlier];
                any = true;
            }
            return least;
        }

        int fallIn(int minute) {
            if (isTold(minute)) return fall[minute];
            int greatest = 0;
            for (int back = 1; back <= LOOK_BACK; back++) {
                int earlier = minute - back;
                if (isTold(earlier)) greatest = Math.max(greatest, fall[earlier]);
            }
            return greatest;
        }
    }

    /** A fluid; each kind's hold is made from that of the kind that stands over it. */
    private static final class Fluid {
        static final int THIN = 0;
        static final int THICK = 1;
        static final int MIXED = 2;

        private final int kind;
        private final int[] spans;
        private final int times;
        private final int parts;
        int litresLeft;

        Fluid(int kind, int[] spans, int times, int parts, int litresLeft) {
            this.kind = kind;
            this.spans = spans;
            this.times = times;
            this.parts = parts;
            this.litresLeft = litresLeft;
        }

        int holds(int cold, int fall) {
            int thin = thinHold(cold, fall);
            if (kind == THIN) return thin;
            int thick = thin * times;
            return kind == THICK ? thick : thick * parts / 10;
        }

        /** Each kind asks the one over it too, so its own number comes with those above. */
        int traceOfBodies() {
            if (kind == THIN) return 1;
            return kind == THICK ? 1 + 10 : 1 + 10 + 100;
        }

        private int thinHold(int cold, int fall) {
            if (fall < 0 || fall >= spans.length) return 0;
            return cold < -10 ? spans[fall] / 2 : spans[fall];
        }
    }

    /** A jet, from its first wait to its flight. */
    private static final class Jet {
        static final int WAITS = 0;
        static final int ON_PAD = 1;
        static final int GONE = 2;

        final int number;
        final int firstReady;
        final Fluid fluid;
        private final int size;
        private final int roll;
        int ready;
        int pad = NONE;
        int start = NONE;
        int flew = NONE;
        int turnsBack;
        private int holdsTill;

        Jet(int number, int size, int ready, int roll, Fluid fluid) {
            this.number = number;
            this.size = size;
            this.firstReady = ready;
            this.ready = ready;
            this.roll = roll;
            this.fluid = fluid;
        }

        int state() {
            if (isGone()) return GONE;
            return pad == NONE ? WAITS : ON_PAD;
        }

        boolean isGone() {
            return flew != NONE;
        }

        int treatment() {
            return 2 * size;
        }

        int litresNeeded() {
            return 10 * size;
        }

        int drainNeeded() {
            return 8 * size;
        }

        void begin(int onPad, int minute, int hold) {
            pad = onPad;
            start = minute;
            holdsTill = minute + hold;
        }

        void leave(int minute) {
            int flies = minute + roll;
            pad = NONE;
            if (flies <= holdsTill) {
                flew = flies;
            } else {
                ready = flies;
                turnsBack++;
            }
        }

        int late() {
            return flew - firstReady - treatment() - roll;
        }
    }

    /** Searches the order in which the first jets that wait are least late; its rows are used again. */
    private static final class Planner {
        private final Jet[] waiting = new Jet[MOST_PLANNED];
        private final boolean[] placed = new boolean[MOST_PLANNED];
        private final int[] order = new int[MOST_PLANNED];
        private final int[] best = new int[MOST_PLANNED];
        int size;
        int least;

        void gather(Jet[] jets) {
            size = 0;
            for (int i = 0; i < jets.length && size < waiting.length; i++) {
                Jet jet = jets[i];
                if (jet == null || jet.state() != Jet.WAITS) continue;
                waiting[size] = jet;
                size++;
            }
        }

        void search(int now) {
            least = Integer.MAX_VALUE;
            place(0, now, 0);
        }

        int numberAt(int i) {
            return within(i, 0, size - 1) ? best[i] : NONE;
        }

        private void place(int depth, int free, int late) {
            // No jet takes from the sum, and of like orders the one met first is first by numbers.
            if (late >= least) return;
            if (depth >= size) {
                keep(late);
                return;
            }
            for (int i = 0; i < size; i++) {
                Jet jet = waiting[i];
                if (jet == null || placed[i]) continue;
                int start = Math.max(free, jet.ready);
                placed[i] = true;
                order[depth] = jet.number;
                // Flown by this treatment, a jet is late by how far its start is behind its first ready.
                place(depth + 1, start + jet.treatment(), late + start - jet.firstReady);
                placed[i] = false;
            }
        }

        private void keep(int late) {
            least = late;
            for (int i = 0; i < size; i++) best[i] = order[i];
        }
    }
}
