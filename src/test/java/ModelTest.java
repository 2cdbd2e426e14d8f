import java.math.BigInteger;
import java.util.ArrayDeque;
import java.util.ArrayList;
import java.util.HashMap;
import java.util.List;
import java.util.Map;
import java.util.Random;
import java.util.TreeSet;

/** Long runs of mixed calls on the class and on a slow second program that follows the document word by word. */
public final class ModelTest {
    private static final int RUNS = 300;
    private static final int CALLS = 512;
    private static int wrong = 0;
    private static final Map<String, Integer> SEEN = new HashMap<>();

    public static void main(String[] args) {
        for (int run = 0; run < RUNS && wrong < 20; run++) {
            play(run);
        }
        checkSeen();
        System.out.println(wrong == 0 ? "all answers are as due" : wrong + " answers are not as due");
        if (wrong != 0) {
            System.exit(1);
        }
    }

    /** A test that never meets a refusal or a rare shape proves nothing about it. */
    private static void checkSeen() {
        String[] needed = {"saddle, round what is high", "saddle, round what is not", "round line", "several lines",
            "held at 20000", "held at 1", "level 20000, none", "level 1, none", "followed", "followed by two alike",
            "lost", "air told below 0", "mended later reading", "drift in several hours alike", "off in halves"};
        for (String what : needed) {
            if (!SEEN.containsKey(what)) {
                wrong++;
                System.out.println("the runs never met: " + what);
            }
        }
    }

    private static void seen(String what) {
        SEEN.merge(what, 1, Integer::sum);
    }

    // ---- the runs

    private static final class Player {
        final Random dice;
        final GlassRoom room = new GlassRoom();
        final Model model = new Model();
        final int kind;
        final int hours;
        final int spread;
        final int wild;
        String call = "";

        Player(int run) {
            dice = new Random(7919L * run + 17);
            kind = run % 5;
            hours = new int[] {2, 6, 12, 48}[dice.nextInt(4)];
            spread = new int[] {2, 3, 5, 8}[dice.nextInt(4)];
            wild = new int[] {10, 300, 3000, 12000}[dice.nextInt(4)];
        }

        int in(int least, int most) {
            return least + dice.nextInt(most - least + 1);
        }

        /** Mostly within, now and then at an end, seldom past it. */
        int near(int least, int most) {
            int throwOf = dice.nextInt(100);
            if (throwOf < 3) {
                return least - 1;
            }
            if (throwOf < 6) {
                return most + 1;
            }
            if (throwOf < 7) {
                return dice.nextBoolean() ? Integer.MIN_VALUE : Integer.MAX_VALUE;
            }
            if (throwOf < 12) {
                return least;
            }
            if (throwOf < 17) {
                return most;
            }
            return in(least, most);
        }

        int glass() {
            return dice.nextInt(30) == 0 ? near(0, 5) : in(0, 1);
        }

        int station() {
            int last = model.stations.size() - 1;
            return dice.nextInt(25) == 0 ? in(-1, last + 1) : in(0, Math.max(0, last));
        }

        int hour() {
            return dice.nextInt(30) == 0 ? near(0, 47) : in(0, hours - 1);
        }

        int place() {
            return dice.nextInt(30) == 0 ? near(0, 7) : in(0, spread - 1);
        }

        int reading() {
            if (dice.nextInt(30) == 0) {
                return near(1, 12000);
            }
            return Math.max(1, Math.min(12000, 7600 + in(-wild, wild)));
        }

        int height() {
            int throwOf = dice.nextInt(4);
            if (throwOf == 0) {
                return near(-400, 4000);
            }
            return throwOf == 1 ? in(-400, 400) : 0;
        }

        int bench() {
            int last = model.benches - 1;
            return dice.nextInt(30) == 0 ? in(-1, last + 1) : in(0, last);
        }

        /** A height at which lines are likely: that of a point, or one more. */
        int lineAt(int hour) {
            if (dice.nextInt(20) == 0 || hour < 0 || hour > 47) {
                return near(1, 20000);
            }
            Long f = model.fieldBy(hour, in(0, spread - 1), in(0, spread - 1), -1);
            Long g = model.fieldBy(hour, in(0, 7), in(0, 7), -1);
            if (f == null || g == null) {
                return 7600;
            }
            return (int) (dice.nextBoolean() ? f + in(0, 1) : (f + g) / 2);
        }
    }

    private static void play(int run) {
        Player p = new Player(run);
        for (int k = 0; k < CALLS && wrong < 20; k++) {
            String where = "run " + run + " call " + k + ": ";
            long[] both = step(p, k);
            if (both[0] != both[1]) {
                wrong++;
                System.out.println(where + p.call + " answered " + both[0] + ", due is " + both[1]);
            }
        }
    }

    private static long[] step(Player p, int k) {
        if (p.kind != 2 && k < 12) {
            return makeStation(p);
        }
        if (p.kind != 2 && k < 150 && p.in(0, 9) > 0) {
            return tell(p);
        }
        // Each run leans to one part of the document, and calls the others too: what they change must be seen.
        int part = p.in(0, 2) > 0 ? p.kind : p.in(0, 4);
        switch (part) {
            case 0: return stepGlasses(p);
            case 1: return stepStations(p);
            case 2: return stepBenches(p);
            case 3: return stepMap(p);
            default: return stepDrift(p);
        }
    }

    private static long[] both(Player p, String call, long got, long want) {
        p.call = call;
        return new long[] {got, want};
    }

    private static long[] makeStation(Player p) {
        int x = p.place(), y = p.place(), h = p.height(), g = p.glass();
        return both(p, "station(" + x + ", " + y + ", " + h + ", " + g + ")",
            p.room.station(x, y, h, g), p.model.station(x, y, h, g));
    }

    private static long[] tell(Player p) {
        int s = p.station(), h = p.hour(), r = p.reading();
        int w = p.in(0, 3) == 0 ? p.near(-30, 50) : p.in(-5, 25);
        return both(p, "tell(" + s + ", " + h + ", " + r + ", " + w + ")",
            p.room.tell(s, h, r, w), p.model.tell(s, h, r, w));
    }

    private static long[] stepGlasses(Player p) {
        int g = p.glass();
        switch (p.in(0, 5)) {
            case 0: {
                int what = p.near(0, 5);
                int[][] ends = {{-50, 50}, {10, 1000}, {6000, 8000}, {1, 10}, {0, 30}, {8000, 12000}};
                int[] e = ends[Math.max(0, Math.min(5, what))];
                int v = p.near(e[0], e[1]);
                return both(p, "set(" + g + ", " + what + ", " + v + ")",
                    p.room.set(g, what, v), p.model.set(g, what, v));
            }
            case 1: {
                int what = p.near(0, 5);
                return both(p, "glass(" + g + ", " + what + ")", p.room.glass(g, what), p.model.glass(g, what));
            }
            case 2: {
                int r = p.reading(), r2 = p.in(0, 3) == 0 ? r : p.reading();
                boolean small = p.in(0, 1) == 0;
                int s = small ? p.in(1, 12) : p.near(1, 4000), s2 = small ? p.in(1, 12) : p.near(1, 4000);
                if (small) {
                    r2 = r + p.in(-3, 3);
                }
                return both(p, "seal(" + g + ", " + r + ", " + s + ", " + r2 + ", " + s2 + ")",
                    p.room.seal(g, r, s, r2, s2), p.model.seal(g, r, s, r2, s2));
            }
            case 3: {
                int part = p.near(0, 1);
                return both(p, "air(" + g + ", " + part + ")", p.room.air(g, part), p.model.air(g, part));
            }
            default: {
                int r = p.in(0, 2) == 0 ? p.in(1, 100) : p.near(1, 12000);
                int w = p.near(-30, 50);
                return both(p, "right(" + g + ", " + r + ", " + w + ")", p.room.right(g, r, w), p.model.right(g, r, w));
            }
        }
    }

    private static long[] stepStations(Player p) {
        int s = p.station(), h = p.hour();
        switch (p.in(0, 6)) {
            case 0: return makeStation(p);
            case 1: return tell(p);
            case 2: return both(p, "gap(" + s + ", " + h + ")", p.room.gap(s, h), p.model.gap(s, h));
            case 3: {
                int a = p.near(1, 20000), t = p.near(-30, 50);
                int b = p.in(0, 1) == 0 ? p.near(1, 20000) : a - p.in(-1, 400);
                return both(p, "rise(" + a + ", " + b + ", " + t + ")", p.room.rise(a, b, t), p.model.rise(a, b, t));
            }
            case 4: {
                int s2 = p.station();
                return both(p, "between(" + s + ", " + s2 + ", " + h + ")",
                    p.room.between(s, s2, h), p.model.between(s, s2, h));
            }
            default: {
                int what = p.in(0, 1) == 0 ? 4 : p.near(0, 4);
                return both(p, "reading(" + s + ", " + h + ", " + what + ")",
                    p.room.reading(s, h, what), p.model.reading(s, h, what));
            }
        }
    }

    private static long[] stepBenches(Player p) {
        int throwOf = p.in(0, 39);
        if (throwOf == 0) {
            int n = p.near(2, 6);
            return both(p, "benches(" + n + ")", p.room.benches(n), p.model.makeBenches(n));
        }
        if (throwOf < 10) {
            int a = p.bench(), b = p.bench();
            int d = p.in(0, 1) == 0 ? p.near(-1000000, 1000000) : p.in(-30, 30);
            int w = p.near(1, 9);
            return both(p, "difference(" + a + ", " + b + ", " + d + ", " + w + ")",
                p.room.difference(a, b, d, w), p.model.difference(a, b, d, w));
        }
        if (throwOf < 12) {
            return both(p, "drop()", p.room.drop(), p.model.drop());
        }
        if (throwOf < 22) {
            int b = p.bench(), part = p.near(0, 1);
            return both(p, "height(" + b + ", " + part + ")", p.room.height(b, part), p.model.height(b, part));
        }
        if (throwOf < 30) {
            int i = p.in(-1, 12), part = p.near(0, 1);
            return both(p, "off(" + i + ", " + part + ")", p.room.off(i, part), p.model.off(i, part));
        }
        if (throwOf < 34) {
            return both(p, "worst()", p.room.worst(), p.model.worst());
        }
        int a = p.bench(), b = p.bench(), c = p.bench();
        return both(p, "closing(" + a + ", " + b + ", " + c + ")", p.room.closing(a, b, c), p.model.closing(a, b, c));
    }

    private static long[] stepMap(Player p) {
        int h = p.hour();
        switch (p.in(0, 6)) {
            case 0: {
                int x = p.near(0, 7), y = p.near(0, 7);
                return both(p, "field(" + h + ", " + x + ", " + y + ")", p.room.field(h, x, y), p.model.field(h, x, y));
            }
            case 1: {
                int i = p.in(-2, 4);
                return both(p, "low(" + h + ", " + i + ")", p.room.low(h, i), p.model.low(h, i));
            }
            case 2: {
                int i = p.in(-1, 3), n = p.in(0, 4) == 0 ? p.near(0, 47) : p.in(0, 3);
                return both(p, "follow(" + h + ", " + i + ", " + n + ")",
                    p.room.follow(h, i, n), p.model.follow(h, i, n));
            }
            case 3: case 4: {
                int v = p.lineAt(h), what = p.near(0, 3);
                return both(p, "lines(" + h + ", " + v + ", " + what + ")",
                    p.room.lines(h, v, what), p.model.lines(h, v, what));
            }
            default: {
                int v = p.lineAt(h), i = p.in(0, 9) == 0 ? p.near(0, 5) : p.in(0, 2), what = p.near(0, 3);
                return both(p, "line(" + h + ", " + v + ", " + i + ", " + what + ")",
                    p.room.line(h, v, i, what), p.model.line(h, v, i, what));
            }
        }
    }

    private static long[] stepDrift(Player p) {
        int s = p.station();
        switch (p.in(0, 5)) {
            case 0:
                return both(p, "mend(" + s + ")", p.room.mend(s), p.model.mend(s));
            case 1: {
                int what = p.near(0, 4);
                return both(p, "told(" + what + ")", p.room.told(what), p.model.told(what));
            }
            case 2: {
                int h = p.hour(), what = p.in(2, 4);
                return both(p, "reading(" + s + ", " + h + ", " + what + ")",
                    p.room.reading(s, h, what), p.model.reading(s, h, what));
            }
            case 3: return tell(p);
            default: {
                int part = p.near(0, 2);
                return both(p, "drift(" + s + ", " + part + ")", p.room.drift(s, part), p.model.drift(s, part));
            }
        }
    }

    // ---- the second program

    private record Fraction(BigInteger top, BigInteger bottom) {
        static final Fraction ZERO = of(0, 1);

        static Fraction of(long top, long bottom) {
            return of(BigInteger.valueOf(top), BigInteger.valueOf(bottom));
        }

        static Fraction of(BigInteger top, BigInteger bottom) {
            BigInteger g = top.gcd(bottom);
            if (bottom.signum() < 0) {
                g = g.negate();
            }
            return new Fraction(top.divide(g), bottom.divide(g));
        }

        Fraction plus(Fraction o) {
            return of(top.multiply(o.bottom).add(o.top.multiply(bottom)), bottom.multiply(o.bottom));
        }

        Fraction less(Fraction o) {
            return plus(new Fraction(o.top.negate(), o.bottom));
        }

        Fraction times(Fraction o) {
            return of(top.multiply(o.top), bottom.multiply(o.bottom));
        }

        Fraction by(Fraction o) {
            return of(top.multiply(o.bottom), bottom.multiply(o.top));
        }

        int compareSize(Fraction o) {
            return top.abs().multiply(o.bottom).compareTo(o.top.abs().multiply(bottom));
        }

        long part(int part) {
            return (part == 0 ? top : bottom).longValueExact();
        }

        long cut() {
            return top.divide(bottom).longValueExact();
        }
    }

    private static final class Place {
        int x, y, height, glass;
        final Map<Integer, int[]> readings = new HashMap<>();
        final List<long[]> mendings = new ArrayList<>();
    }

    private record Difference(int from, int to, int up, int weight) { }

    private static final class Model {
        static final long LOST = -1000000000000000000L;
        static final int[][] ENDS = {{-50, 50}, {10, 1000}, {6000, 8000}, {1, 10}, {0, 30}, {8000, 12000}};
        static final int[] DROPS = {40, 20, 12, 8, 5, 3, 2, 1, 1, 0};

        final int[][] glasses = new int[6][];
        final Fraction[] airs = new Fraction[6];
        final List<Place> stations = new ArrayList<>();
        int benches = 3;
        final List<Difference> differences = new ArrayList<>();
        final Map<String, Long> levels = new HashMap<>();

        Model() {
            for (int i = 0; i < 6; i++) {
                glasses[i] = new int[] {0, 100, 7600, 5, 2, 8500};
                airs[i] = Fraction.ZERO;
            }
        }

        static boolean out(int v, int least, int most) {
            return v < least || v > most;
        }

        int set(int glass, int what, int v) {
            if (out(glass, 0, 5)) return -101;
            if (out(what, 0, 5)) return -102;
            if (out(v, ENDS[what][0], ENDS[what][1])) return -102;
            int was = glasses[glass][what];
            glasses[glass][what] = v;
            return was;
        }

        int glass(int glass, int what) {
            if (out(glass, 0, 5)) return -101;
            if (out(what, 0, 5)) return -102;
            return glasses[glass][what];
        }

        int seal(int glass, int r, int s, int r2, int s2) {
            if (out(glass, 0, 5)) return -1;
            if (out(r, 1, 12000) || out(r2, 1, 12000) || out(s, 1, 4000) || out(s2, 1, 4000) || s == s2) return -2;
            Fraction air = Fraction.of((long) (r - r2) * s * s2, s - s2);
            if (air.top().signum() < 0) return -5;
            airs[glass] = air;
            return air.top().signum();
        }

        long air(int glass, int part) {
            if (out(glass, 0, 5)) return LOST - 1;
            if (out(part, 0, 1)) return LOST - 2;
            return airs[glass].part(part);
        }

        long right(int glass, int r, int w) {
            if (out(glass, 0, 5)) return LOST - 1;
            if (out(r, 1, 12000) || out(w, -30, 50)) return LOST - 2;
            int[] g = glasses[glass];
            long a = r + g[0];
            long b = a + (a - g[2]) / g[1];
            long c = b + DROPS[g[3] - 1];
            long d = Fraction.of(c * (100000L + (long) g[4] * w), 100000L + 18L * w).cut();
            if (g[5] <= d) return d;
            Fraction share = airs[glass].by(Fraction.of(g[5] - d, 1));
            long together = share.plus(Fraction.of(d, 1)).cut();
            if (together != d + share.cut()) seen("air told below 0");
            return together;
        }

        int station(int x, int y, int height, int glass) {
            if (out(glass, 0, 5)) return -1;
            if (out(x, 0, 7) || out(y, 0, 7) || out(height, -400, 4000)) return -2;
            if (stations.size() == 8) return -4;
            for (Place s : stations) {
                if (s.x == x && s.y == y) return -5;
            }
            Place s = new Place();
            s.x = x;
            s.y = y;
            s.height = height;
            s.glass = glass;
            stations.add(s);
            return stations.size() - 1;
        }

        boolean noStation(int s) {
            return out(s, 0, stations.size() - 1);
        }

        int tell(int station, int hour, int r, int w) {
            if (noStation(station)) return -1;
            if (out(hour, 0, 47) || out(r, 1, 12000) || out(w, -30, 50)) return -2;
            Place s = stations.get(station);
            for (long[] m : s.mendings) {
                if (m[0] <= hour && m[1] != 0) seen("mended later reading");
            }
            return s.readings.put(hour, new int[] {r, w}) == null ? 1 : 2;
        }

        int gap(int station, int hour) {
            if (noStation(station)) return -1;
            if (out(hour, 0, 47)) return -2;
            return stations.get(station).readings.remove(hour) == null ? 0 : 1;
        }

        long mended(Place s, int hour) {
            int[] told = s.readings.get(hour);
            long p = right(s.glass, told[0], told[1]);
            for (long[] m : s.mendings) {
                if (hour >= m[0]) p -= m[1];
            }
            return p;
        }

        long held(Place s, int hour) {
            long p = mended(s, hour);
            if (p > 20000) seen("held at 20000");
            if (p < 1) seen("held at 1");
            return p < 1 ? 1 : p > 20000 ? 20000 : p;
        }

        static long risen(long sum, int t) {
            return sum * (2730 + 10 * t) / 2730;
        }

        static long plainRise(long p, long p2, int t) {
            long sum = 0;
            for (long k = p2 + 1; k <= p; k++) {
                sum += 800000 / k;
            }
            return risen(sum, t);
        }

        long level(Place s, int hour) {
            long p = held(s, hour);
            int t = s.readings.get(hour)[1];
            return levels.computeIfAbsent(p + " " + s.height + " " + t, key -> plainLevel(p, s.height, t));
        }

        static long plainLevel(long p, int height, int t) {
            if (height == 0) return p;
            long sum = 0;
            long far = 100L * Math.abs(height);
            if (height > 0) {
                for (long q = p; q <= 20000; q++) {
                    if (q > p) sum += 800000 / q;
                    if (risen(sum, t) >= far) return q;
                }
                seen("level 20000, none");
                return 20000;
            }
            for (long q = p; q >= 1; q--) {
                if (q < p) sum += 800000 / (q + 1);
                if (risen(sum, t) >= far) return q;
            }
            seen("level 1, none");
            return 1;
        }

        long reading(int station, int hour, int what) {
            if (noStation(station)) return LOST - 1;
            if (out(hour, 0, 47) || out(what, 0, 4)) return LOST - 2;
            Place s = stations.get(station);
            int[] told = s.readings.get(hour);
            if (told == null) return LOST - 6;
            if (what < 2) return told[what];
            if (what == 2) return right(s.glass, told[0], told[1]);
            return what == 3 ? mended(s, hour) : level(s, hour);
        }

        long rise(int p, int p2, int t) {
            if (out(p, 1, 20000) || out(p2, 1, 20000) || out(t, -30, 50) || p2 >= p) return LOST - 2;
            return plainRise(p, p2, t);
        }

        long between(int a, int b, int hour) {
            if (noStation(a) || noStation(b)) return LOST - 1;
            if (out(hour, 0, 47)) return LOST - 2;
            Place s = stations.get(a);
            Place s2 = stations.get(b);
            if (!s.readings.containsKey(hour) || !s2.readings.containsKey(hour)) return LOST - 6;
            long p = held(s, hour);
            long p2 = held(s2, hour);
            int t = (s.readings.get(hour)[1] + s2.readings.get(hour)[1]) / 2;
            if (p == p2) return 0;
            return p2 < p ? plainRise(p, p2, t) : -plainRise(p2, p, t);
        }

        // -- benches

        boolean noBench(int b) {
            return out(b, 0, benches - 1);
        }

        int makeBenches(int n) {
            if (out(n, 2, 6)) return -2;
            int was = benches;
            benches = n;
            differences.clear();
            return was;
        }

        int difference(int a, int b, int d, int weight) {
            if (noBench(a) || noBench(b) || a == b) return -1;
            if (out(d, -1000000, 1000000) || out(weight, 1, 9)) return -2;
            if (differences.size() == 12) return -4;
            differences.add(new Difference(a, b, d, weight));
            return differences.size() - 1;
        }

        int drop() {
            if (differences.isEmpty()) return -1;
            differences.remove(differences.size() - 1);
            return differences.size();
        }

        boolean allJoined() {
            boolean[] reached = new boolean[benches];
            reached[0] = true;
            for (int round = 0; round < benches; round++) {
                for (Difference d : differences) {
                    if (reached[d.from] || reached[d.to]) {
                        reached[d.from] = true;
                        reached[d.to] = true;
                    }
                }
            }
            for (boolean r : reached) {
                if (!r) return false;
            }
            return true;
        }

        /** Gauss and Jordan, in fractions. */
        Fraction[] heights() {
            int n = benches;
            Fraction[][] m = new Fraction[n][n + 1];
            for (Fraction[] row : m) {
                java.util.Arrays.fill(row, Fraction.ZERO);
            }
            m[0][0] = Fraction.of(1, 1);
            for (Difference d : differences) {
                int[][] ends = {{d.to, d.from, 1}, {d.from, d.to, -1}};
                for (int[] e : ends) {
                    if (e[0] == 0) continue;
                    m[e[0]][e[0]] = m[e[0]][e[0]].plus(Fraction.of(d.weight, 1));
                    m[e[0]][e[1]] = m[e[0]][e[1]].less(Fraction.of(d.weight, 1));
                    m[e[0]][n] = m[e[0]][n].plus(Fraction.of((long) e[2] * d.weight * d.up, 1));
                }
            }
            for (int c = 0; c < n; c++) {
                int pivot = c;
                while (m[pivot][c].top.signum() == 0) {
                    pivot++;
                }
                Fraction[] keep = m[c];
                m[c] = m[pivot];
                m[pivot] = keep;
                Fraction lead = m[c][c];
                for (int j = 0; j <= n; j++) {
                    m[c][j] = m[c][j].by(lead);
                }
                for (int k = 0; k < n; k++) {
                    if (k != c) {
                        Fraction factor = m[k][c];
                        for (int j = 0; j <= n; j++) {
                            m[k][j] = m[k][j].less(factor.times(m[c][j]));
                        }
                    }
                }
            }
            Fraction[] found = new Fraction[n];
            for (int k = 0; k < n; k++) {
                found[k] = m[k][n];
            }
            return found;
        }

        Fraction misfit(int i) {
            Fraction[] h = heights();
            Difference d = differences.get(i);
            return h[d.to].less(h[d.from]).less(Fraction.of(d.up, 1));
        }

        long height(int bench, int part) {
            if (noBench(bench)) return LOST - 1;
            if (out(part, 0, 1)) return LOST - 2;
            return allJoined() ? heights()[bench].part(part) : LOST - 5;
        }

        long off(int i, int part) {
            if (out(i, 0, differences.size() - 1)) return LOST - 1;
            if (out(part, 0, 1)) return LOST - 2;
            if (!allJoined()) return LOST - 5;
            if (misfit(i).part(1) > 1) seen("off in halves");
            return misfit(i).part(part);
        }

        int worst() {
            if (differences.isEmpty()) return -6;
            if (!allJoined()) return -5;
            int worst = 0;
            for (int i = 1; i < differences.size(); i++) {
                if (misfit(i).compareSize(misfit(worst)) > 0) worst = i;
            }
            return worst;
        }

        Long up(int a, int b) {
            for (Difference d : differences) {
                if (d.from == a && d.to == b) return (long) d.up;
                if (d.from == b && d.to == a) return -(long) d.up;
            }
            return null;
        }

        long closing(int a, int b, int c) {
            if (noBench(a) || noBench(b) || noBench(c) || a == b || a == c || b == c) return LOST - 1;
            Long one = up(a, b);
            Long two = up(b, c);
            Long three = up(c, a);
            if (one == null || two == null || three == null) return LOST - 6;
            return one + two + three;
        }

        // -- the map

        Long fieldBy(int hour, int x, int y, int except) {
            long sum = 0;
            long weights = 0;
            for (int k = 0; k < stations.size(); k++) {
                Place s = stations.get(k);
                if (k == except || !s.readings.containsKey(hour)) continue;
                long w = 1000 / (1 + (s.x - x) * (s.x - x) + (s.y - y) * (s.y - y));
                sum += w * level(s, hour);
                weights += w;
            }
            return weights == 0 ? null : (Long) (sum / weights);
        }

        long field(int hour, int x, int y) {
            if (out(hour, 0, 47) || out(x, 0, 7) || out(y, 0, 7)) return LOST - 2;
            Long f = fieldBy(hour, x, y, -1);
            return f == null ? LOST - 6 : f;
        }

        long[] points(int hour) {
            if (fieldBy(hour, 0, 0, -1) == null) return null;
            long[] all = new long[64];
            for (int k = 0; k < 64; k++) {
                all[k] = fieldBy(hour, k % 8, k / 8, -1);
            }
            return all;
        }

        static int square(int p, int q) {
            int dx = p % 8 - q % 8;
            int dy = p / 8 - q / 8;
            return dx * dx + dy * dy;
        }

        List<Integer> lows(int hour) {
            List<Integer> found = new ArrayList<>();
            long[] all = points(hour);
            for (int p = 0; all != null && p < 64; p++) {
                boolean low = true;
                for (int q = 0; q < 64; q++) {
                    boolean beside = q != p && square(p, q) <= 2;
                    if (beside && (all[q] < all[p] || q < p && all[q] == all[p])) low = false;
                }
                if (low) found.add(p);
            }
            return found;
        }

        int low(int hour, int i) {
            if (out(hour, 0, 47)) return -2;
            List<Integer> found = lows(hour);
            if (i == -1) return found.size();
            return out(i, 0, found.size() - 1) ? -6 : found.get(i);
        }

        int follow(int hour, int i, int n) {
            if (out(hour, 0, 47) || out(n, 0, 47)) return -2;
            List<Integer> found = lows(hour);
            if (out(i, 0, found.size() - 1)) return -6;
            int at = found.get(i);
            for (int k = 1; k <= n; k++) {
                int next = -6;
                if (hour + k > 47) return -6;
                for (int q : lows(hour + k)) {
                    boolean alike = next >= 0 && square(at, q) == square(at, next);
                    if (alike && square(at, q) <= 8) seen("followed by two alike");
                    if (next < 0 || square(at, q) < square(at, next)) next = q;
                }
                if (next < 0 || square(at, next) > 8) {
                    seen("lost");
                    return -6;
                }
                seen("followed");
                at = next;
            }
            return at;
        }

        /** For each side that is cut, the sides that its line goes on to. */
        Map<Integer, List<Integer>> links(long[] all, int v) {
            Map<Integer, List<Integer>> links = new HashMap<>();
            for (int y = 0; y < 8; y++) {
                for (int x = 0; x < 8; x++) {
                    boolean here = all[8 * y + x] >= v;
                    if (x < 7 && here != all[8 * y + x + 1] >= v) links.put(16 * y + 2 * x, new ArrayList<>());
                    if (y < 7 && here != all[8 * y + 8 + x] >= v) links.put(16 * y + 2 * x + 1, new ArrayList<>());
                }
            }
            for (int y = 0; y < 7; y++) {
                for (int x = 0; x < 7; x++) {
                    linkSquare(links, all, v, x, y);
                }
            }
            return links;
        }

        void linkSquare(Map<Integer, List<Integer>> links, long[] all, int v, int x, int y) {
            List<Integer> cut = new ArrayList<>();
            for (int side : new int[] {16 * y + 2 * x, 16 * y + 2 * x + 1, 16 * y + 2 * x + 3, 16 * y + 16 + 2 * x}) {
                if (links.containsKey(side)) cut.add(side);
            }
            if (cut.size() == 2) link(links, cut.get(0), cut.get(1));
            if (cut.size() < 4) return;
            long together = 0;
            for (int c = 0; c < 4; c++) {
                together += all[8 * (y + c / 2) + x + c % 2];
            }
            boolean roundHigh = together < 4L * v;
            seen(roundHigh ? "saddle, round what is high" : "saddle, round what is not");
            for (int c = 0; c < 4; c++) {
                int cx = c % 2;
                int cy = c / 2;
                boolean isHigh = all[8 * (y + cy) + x + cx] >= v;
                if (isHigh == roundHigh) {
                    link(links, 16 * (y + cy) + 2 * x, 16 * y + 2 * (x + cx) + 1);
                }
            }
        }

        static void link(Map<Integer, List<Integer>> links, int a, int b) {
            links.get(a).add(b);
            links.get(b).add(a);
        }

        List<TreeSet<Integer>> allLines(Map<Integer, List<Integer>> links) {
            List<TreeSet<Integer>> lines = new ArrayList<>();
            TreeSet<Integer> left = new TreeSet<>(links.keySet());
            while (!left.isEmpty()) {
                TreeSet<Integer> line = new TreeSet<>();
                ArrayDeque<Integer> open = new ArrayDeque<>();
                open.add(left.first());
                while (!open.isEmpty()) {
                    int side = open.poll();
                    if (line.add(side)) open.addAll(links.get(side));
                }
                left.removeAll(line);
                lines.add(line);
            }
            return lines;
        }

        /** It is round, if each of its sides goes on to two others. */
        static boolean isRound(Map<Integer, List<Integer>> links, TreeSet<Integer> line) {
            for (int side : line) {
                if (links.get(side).size() < 2) return false;
            }
            seen("round line");
            return true;
        }

        int lines(int hour, int v, int what) {
            if (out(hour, 0, 47) || out(v, 1, 20000) || out(what, 0, 3)) return -2;
            long[] all = points(hour);
            if (all == null) return -3;
            Map<Integer, List<Integer>> links = links(all, v);
            List<TreeSet<Integer>> lines = allLines(links);
            if (lines.size() > 1) seen("several lines");
            if (what == 0) return lines.size();
            if (what == 2) return links.size();
            int count = 0;
            if (what == 1) {
                for (TreeSet<Integer> line : lines) {
                    if (isRound(links, line)) count++;
                }
                return count;
            }
            for (long f : all) {
                if (f >= v) count++;
            }
            return count;
        }

        int line(int hour, int v, int i, int what) {
            if (out(hour, 0, 47) || out(v, 1, 20000) || out(what, 0, 3)) return -2;
            long[] all = points(hour);
            if (all == null) return -3;
            Map<Integer, List<Integer>> links = links(all, v);
            List<TreeSet<Integer>> lines = allLines(links);
            if (out(i, 0, lines.size() - 1)) return -1;
            TreeSet<Integer> line = lines.get(i);
            switch (what) {
                case 0: return line.size();
                case 1: return isRound(links, line) ? 1 : 0;
                case 2: return line.first();
                default: return line.last();
            }
        }

        // -- drift

        record Drift(int hour, Fraction size) { }

        static Fraction mean(List<Long> values) {
            long sum = 0;
            for (long v : values) {
                sum += v;
            }
            return Fraction.of(sum, values.size());
        }

        Drift findDrift(int station) {
            Place s = stations.get(station);
            List<Integer> hours = new ArrayList<>();
            List<Long> apart = new ArrayList<>();
            for (int hour = 0; hour < 48; hour++) {
                Long others = fieldBy(hour, s.x, s.y, station);
                if (s.readings.containsKey(hour) && others != null) {
                    hours.add(hour);
                    apart.add(level(s, hour) - others);
                }
            }
            Drift best = null;
            for (int k = 2; k + 2 <= hours.size(); k++) {
                Fraction size = mean(apart.subList(k, apart.size())).less(mean(apart.subList(0, k)));
                if (best != null && size.compareSize(best.size) == 0) seen("drift in several hours alike");
                if (best == null || size.compareSize(best.size) > 0) best = new Drift(hours.get(k), size);
            }
            return best;
        }

        long drift(int station, int part) {
            if (noStation(station)) return LOST - 1;
            if (out(part, 0, 2)) return LOST - 2;
            Drift d = findDrift(station);
            if (d == null) return LOST - 6;
            return part == 0 ? d.hour : d.size.part(part - 1);
        }

        long mend(int station) {
            if (noStation(station)) return LOST - 1;
            Place s = stations.get(station);
            if (s.mendings.size() == 3) return LOST - 4;
            Drift d = findDrift(station);
            if (d == null) return LOST - 6;
            s.mendings.add(new long[] {d.hour, d.size.cut()});
            return d.size.cut();
        }

        int told(int what) {
            int readings = 0;
            int mendings = 0;
            for (Place s : stations) {
                readings += s.readings.size();
                mendings += s.mendings.size();
            }
            switch (what) {
                case 0: return stations.size();
                case 1: return readings;
                case 2: return benches;
                case 3: return differences.size();
                case 4: return mendings;
                default: return -2;
            }
        }
    }
}
