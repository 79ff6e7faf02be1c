import java.util.ArrayList;
import java.util.List;
import java.util.TreeMap;

/** The document read a second time, with the Java library and without thrift: what IcePads is held against. */
final class Model {
    private final TreeMap<Integer, int[]> told = new TreeMap<>();
    private final List<int[]> fluids = new ArrayList<>();
    private final List<Plane> planes = new ArrayList<>();
    private int now;
    private int pads = 1;
    private int limit = 200;
    private int rate = 5;
    private int drain;
    private long trace;

    private static final class Plane {
        int size;
        int roll;
        int fluid;
        int pad = -1;
        /** Every READY and START that it ever had, in their order. */
        final List<Integer> readies = new ArrayList<>();
        final List<Integer> starts = new ArrayList<>();
        Integer flew;

        int ready() {
            return readies.get(readies.size() - 1);
        }

        int state() {
            return flew != null ? 2 : pad >= 0 ? 1 : 0;
        }

        int late() {
            return flew - readies.get(0) - 2 * size - roll;
        }
    }

    int weather(int minute, int cold, int fall) {
        if (minute < 0 || minute > 299 || cold < -30 || cold > 5 || fall < 0 || fall > 3) return -100;
        if (minute < now) return -200;
        told.put(minute, new int[] {cold, fall});
        return 1;
    }

    int loses(int minute) {
        if (minute < 0 || minute > 299) return -100;
        if (minute < now) return -200;
        return told.remove(minute) != null ? 1 : 0;
    }

    int known(int minute, int what) {
        if (minute < 0 || minute > 299 || what < 0 || what > 2) return -100;
        return what == 2 ? (told.containsKey(minute) ? 1 : 0) : sky(minute)[what];
    }

    private int[] sky(int minute) {
        if (told.containsKey(minute)) return told.get(minute);
        var before = told.subMap(minute - 30, minute).values();
        int cold = before.stream().mapToInt(w -> w[0]).min().orElse(0);
        int fall = before.stream().mapToInt(w -> w[1]).max().orElse(0);
        return new int[] {cold, fall};
    }

    int fluid(int[] f) {
        boolean fine = f[0] >= 0 && f[0] <= 2 && f[7] >= 0 && f[7] <= 2000;
        for (int i = 1; i <= 4; i++) fine &= f[i] >= 0 && f[i] <= 100 && (i == 1 || f[i] <= f[i - 1]);
        fine &= f[0] == 0 || f[5] >= 1 && f[5] <= 4;
        fine &= f[0] != 2 || f[6] >= 1 && f[6] <= 10;
        if (!fine) return -100;
        if (fluids.size() == 4) return -300;
        fluids.add(f.clone());
        return fluids.size() - 1;
    }

    int hold(int fluid, int minute) {
        if (noFluid(fluid) || minute < 0 || minute > 299) return -100;
        trace += new int[] {1, 11, 111}[fluids.get(fluid)[0]];
        return holdOf(fluid, minute);
    }

    private int holdOf(int fluid, int minute) {
        int[] f = fluids.get(fluid);
        int[] sky = sky(minute);
        int hold = f[1 + sky[1]];
        if (sky[0] < -10) hold = (int) Math.floor(hold / 2.0);
        if (f[0] >= 1) hold = hold * f[5];
        if (f[0] == 2) hold = Math.floorDiv(hold * f[6], 10);
        return hold;
    }

    private boolean noFluid(int fluid) {
        return fluid < 0 || fluid >= fluids.size();
    }

    int fill(int fluid, int n) {
        if (noFluid(fluid) || n < 0 || n > 2000) return -100;
        int was = fluids.get(fluid)[7];
        fluids.get(fluid)[7] = n;
        return was;
    }

    int set(int what, int v) {
        if (what < 0 || what > 2) return -100;
        int[] least = {1, 10, 0};
        int[] most = {3, 1000, 50};
        if (v < least[what] || v > most[what]) return -100;
        if (what == 0 && planes.stream().anyMatch(p -> p.state() == 1)) return -200;
        int was = what == 0 ? pads : what == 1 ? limit : rate;
        if (what == 0) pads = v;
        if (what == 1) limit = v;
        if (what == 2) rate = v;
        return was;
    }

    int jet(int size, int ready, int roll, int fluid) {
        if (size < 1 || size > 5 || ready < now || ready > 299 || roll < 1 || roll > 20 || noFluid(fluid)) return -100;
        if (planes.size() == 12) return -300;
        Plane plane = new Plane();
        plane.size = size;
        plane.roll = roll;
        plane.fluid = fluid;
        plane.readies.add(ready);
        planes.add(plane);
        return planes.size() - 1;
    }

    int minutes(int n) {
        if (n < 1 || n > 60) return -100;
        if (now + n > 299) return -200;
        for (int i = 0; i < n; i++) minute();
        return now;
    }

    private void minute() {
        drain = drain < rate ? 0 : drain - rate;
        for (Plane plane : planes) if (plane.state() == 1) end(plane);
        for (int pad = 0; pad < pads; pad++) if (on(pad) == -900) begin(pad);
        now++;
    }

    private void end(Plane plane) {
        int start = plane.starts.get(plane.starts.size() - 1);
        if (start + 2 * plane.size != now) return;
        plane.pad = -1;
        if (now + plane.roll - start <= holdOf(plane.fluid, start)) plane.flew = now + plane.roll;
        else plane.readies.add(now + plane.roll);
    }

    private void begin(int pad) {
        Plane best = planes.stream()
                .filter(p -> p.state() == 0 && p.ready() <= now)
                .filter(p -> fluids.get(p.fluid)[7] >= 10 * p.size && drain + 8 * p.size <= limit)
                .min((p, q) -> p.ready() != q.ready() ? p.ready() - q.ready() : planes.indexOf(p) - planes.indexOf(q))
                .orElse(null);
        if (best == null) return;
        fluids.get(best.fluid)[7] -= 10 * best.size;
        drain += 8 * best.size;
        best.pad = pad;
        best.starts.add(now);
    }

    int about(int jet, int what) {
        if (jet < 0 || jet >= planes.size() || what < 0 || what > 6) return -100;
        Plane p = planes.get(jet);
        int start = p.starts.isEmpty() ? -900 : p.starts.get(p.starts.size() - 1);
        int flew = p.flew == null ? -900 : p.flew;
        int late = p.flew == null ? -900 : p.late();
        return new int[] {p.state(), p.pad < 0 ? -900 : p.pad, start, p.ready(), p.readies.size() - 1, flew, late}[what];
    }

    int on(int pad) {
        if (pad < 0 || pad >= pads) return -100;
        for (int i = 0; i < planes.size(); i++) if (planes.get(i).pad == pad) return i;
        return -900;
    }

    int litres(int fluid) {
        return noFluid(fluid) ? -100 : fluids.get(fluid)[7];
    }

    int plan(int what, int i) {
        if (what < 0 || what > 2) return -100;
        if (what == 1 && (i < 0 || i > 4)) return -100;
        List<Integer> waiting = new ArrayList<>();
        for (int j = 0; j < planes.size() && waiting.size() < 5; j++) if (planes.get(j).state() == 0) waiting.add(j);
        if (what == 0) return waiting.size();
        List<List<Integer>> orders = new ArrayList<>();
        permute(new ArrayList<>(), waiting, orders);
        List<Integer> best = orders.get(0);
        for (List<Integer> order : orders) if (lates(order) < lates(best)) best = order;
        if (what == 2) return lates(best);
        return i < best.size() ? best.get(i) : -900;
    }

    private static void permute(List<Integer> head, List<Integer> rest, List<List<Integer>> orders) {
        if (rest.isEmpty()) orders.add(head);
        for (Integer next : rest) {
            List<Integer> longer = new ArrayList<>(head);
            longer.add(next);
            List<Integer> left = new ArrayList<>(rest);
            left.remove(next);
            permute(longer, left, orders);
        }
    }

    private int lates(List<Integer> order) {
        int free = now;
        int sum = 0;
        for (int number : order) {
            Plane p = planes.get(number);
            int start = Math.max(free, p.ready());
            int flies = start + 2 * p.size + p.roll;
            sum += flies - p.readies.get(0) - 2 * p.size - p.roll;
            free = start + 2 * p.size;
        }
        return sum;
    }

    int count(int what) {
        if (what < 0 || what > 9) return -100;
        int[] states = new int[3];
        int begun = 0;
        int back = 0;
        int late = 0;
        for (Plane p : planes) {
            states[p.state()]++;
            begun += p.starts.size();
            back += p.readies.size() - 1;
            late += p.flew == null ? 0 : p.late();
        }
        return new int[] {
            now, fluids.size(), pads, planes.size(), states[0], states[2], drain, begun, back, late}[what];
    }

    long trace() {
        return trace;
    }
}
