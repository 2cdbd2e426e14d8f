import java.lang.reflect.InvocationTargetException;
import java.lang.reflect.Method;
import java.lang.reflect.Modifier;
import java.util.ArrayList;
import java.util.Arrays;
import java.util.LinkedHashMap;
import java.util.List;
import java.util.Map;

/** All promises: the first refusal that fits is answered, a refused call changes nothing, and no number is too odd. */
public final class RefusalsTest {
    private static final long L = Due.LOST;

    private RefusalsTest() { }

    /** One call, so that a room can be made as often as it is asked. */
    private interface Call {
        long on(GlassRoom x);
    }

    public static void main(String[] args) throws IllegalAccessException {
        twoAtOnceForGlasses();
        twoAtOnceForStations();
        twoAtOnceForBenches();
        twoAtOnceForTheMap();
        twoAtOnceForDrifts();
        refusedCallsChangeNothing();
        refusedCallsChangeNothingInAFullRoom();
        askingChangesNothing();
        anyNumbers();
        Due.finish();
    }

    // ---- two refusals at once

    private static void first(int promise, String call, long got, long want) {
        Due.due(promise, call + ", two at once", got, want);
    }

    private static void twoAtOnceForGlasses() {
        GlassRoom x = new GlassRoom();
        first(2, "set: no glass, no such number", x.set(6, 6, 0), -101);
        first(2, "set: no glass, too much", x.set(-1, 0, 51), -101);
        first(2, "set: no such number, too much", x.set(0, 6, 99999), -102);
        first(3, "glass: no glass, no such number", x.glass(6, 6), -101);
        first(4, "seal: no glass, r", x.seal(6, 0, 2, 1, 1), -1);
        first(4, "seal: no glass, s", x.seal(6, 1, 0, 1, 1), -1);
        first(4, "seal: no glass, s alike", x.seal(6, 2, 2, 1, 2), -1);
        first(4, "seal: no glass, below 0", x.seal(6, 1, 2, 2, 1), -1);
        first(4, "seal: r, below 0", x.seal(0, 0, 2, 2, 1), -2);
        first(4, "seal: r', below 0", x.seal(0, 1, 2, 12001, 1), -2);
        first(4, "seal: s, below 0", x.seal(0, 1, 4001, 2, 1), -2);
        first(4, "seal: s', below 0", x.seal(0, 1, 2, 2, 0), -2);
        first(4, "seal: s, nothing", x.seal(0, 5, 4001, 5, 1), -2);
        first(5, "air: no glass, no part", x.air(6, 2), L - 1);
        first(6, "right: no glass, r", x.right(6, 0, 0), L - 1);
        first(6, "right: no glass, w", x.right(-1, 7600, 51), L - 1);
        first(6, "right: r, w", x.right(0, 0, 51), L - 2);
    }

    private static void twoAtOnceForStations() {
        GlassRoom x = Due.map(0, 0);
        first(7, "station: no glass, x", x.station(8, 0, 0, 6), -1);
        first(7, "station: no glass, height", x.station(1, 0, 4001, 6), -1);
        first(7, "station: no glass, taken", x.station(0, 0, 0, 6), -1);
        first(7, "station: height, taken", x.station(0, 0, 4001, 0), -2);
        first(7, "station: height, taken", x.station(0, 0, -401, 0), -2);
        GlassRoom full = Due.map(0, 0, 1, 0, 2, 0, 3, 0, 4, 0, 5, 0, 6, 0, 7, 0);
        first(7, "station: no glass, full", full.station(0, 1, 0, 6), -1);
        first(7, "station: x, full", full.station(8, 1, 0, 0), -2);
        first(7, "station: y, full", full.station(0, -1, 0, 0), -2);
        first(7, "station: height, full", full.station(0, 1, 4001, 0), -2);
        first(7, "station: full, taken", full.station(7, 0, 0, 0), -4);
        first(7, "station: no glass, full, taken", full.station(0, 0, 0, -1), -1);
        first(7, "station: height, full, taken", full.station(0, 0, 4001, 0), -2);
        first(8, "tell: no station, hour", x.tell(1, 48, 7600, 0), -1);
        first(8, "tell: no station, r", x.tell(-1, 0, 0, 0), -1);
        first(8, "tell: no station, w", x.tell(1, 0, 7600, 51), -1);
        first(9, "gap: no station, hour", x.gap(1, -1), -1);
        first(10, "reading: no station, hour", x.reading(1, 48, 0), L - 1);
        first(10, "reading: no station, what", x.reading(1, 0, 5), L - 1);
        first(10, "reading: what, a gap", x.reading(0, 0, 5), L - 2);
        first(10, "reading: what, a gap", x.reading(0, 0, -1), L - 2);
        first(11, "rise: p, t", x.rise(20001, 1, 51), L - 2);
        first(12, "between: no station, hour", x.between(0, 1, 48), L - 1);
        first(12, "between: no station, hour", x.between(-1, 0, 48), L - 1);
        first(12, "between: no second station, the first has a gap", x.between(0, 1, 0), L - 1);
        first(12, "between: no first station, the second has a gap", x.between(1, 0, 0), L - 1);
    }

    private static void twoAtOnceForBenches() {
        GlassRoom x = new GlassRoom();
        first(14, "difference: no bench, d", x.difference(0, 3, 1000001, 1), -1);
        first(14, "difference: no bench, weight", x.difference(-1, 0, 1, 10), -1);
        first(14, "difference: one bench, weight", x.difference(1, 1, 1, 0), -1);
        first(14, "difference: one bench, d", x.difference(1, 1, -1000001, 1), -1);
        first(16, "height: no bench, no part", x.height(3, 2), L - 1);
        first(16, "height: no bench, not joined", x.height(3, 0), L - 1);
        first(16, "height: no part, not joined", x.height(2, 2), L - 2);
        first(16, "height: no part, not joined", x.height(0, -1), L - 2);
        first(17, "off: none, no part", x.off(0, 2), L - 1);
        first(17, "off: none, not joined", x.off(0, 0), L - 1);
        first(18, "worst: none, not joined", x.worst(), -6);
        x.difference(1, 2, 1, 1);
        first(17, "off: no part, not joined", x.off(0, 2), L - 2);
        first(17, "off: none such, not joined", x.off(1, 0), L - 1);
        first(19, "closing: no bench, no difference", x.closing(0, 1, 3), L - 1);
        first(19, "closing: two are one, no difference", x.closing(0, 1, 0), L - 1);
        for (int k = 1; k < 12; k++) {
            x.difference(1, 2, 1, 1);
        }
        first(14, "difference: no bench, full", x.difference(0, 3, 1, 1), -1);
        first(14, "difference: one bench, full", x.difference(2, 2, 1, 1), -1);
        first(14, "difference: d, full", x.difference(0, 1, 1000001, 1), -2);
        first(14, "difference: weight, full", x.difference(0, 1, 1, 10), -2);
        Due.due(14, "difference: full", x.difference(0, 1, 1, 9), -4);
    }

    private static void twoAtOnceForTheMap() {
        GlassRoom x = Due.map(0, 0);
        first(20, "field: x, no reading", x.field(0, 8, 0), L - 2);
        first(20, "field: y, no reading", x.field(0, 0, -1), L - 2);
        first(20, "field: hour, x", x.field(48, 8, 0), L - 2);
        first(21, "low: hour, no such low", x.low(48, 5), -2);
        first(22, "follow: hour, no such low", x.follow(48, 5, 0), -2);
        first(22, "follow: n, no such low", x.follow(0, 5, 48), -2);
        first(22, "follow: n, no reading", x.follow(0, 0, -1), -2);
        first(23, "lines: v, no reading", x.lines(0, 0, 0), -2);
        first(23, "lines: what, no reading", x.lines(0, 7600, 4), -2);
        first(23, "lines: hour, v, what", x.lines(48, 0, 4), -2);
        first(24, "line: v, no reading", x.line(0, 20001, 0, 0), -2);
        first(24, "line: what, no reading", x.line(0, 7600, 0, -1), -2);
        first(24, "line: no such line, no reading", x.line(0, 7600, 99, 0), -3);
        x.tell(0, 0, 7600, 0);
        first(24, "line: hour, no such line", x.line(48, 7600, 0, 0), -2);
        first(24, "line: v, no such line", x.line(0, 0, 0, 0), -2);
        first(24, "line: what, no such line", x.line(0, 7600, 0, 4), -2);
        Due.due(24, "line: no such line", x.line(0, 7600, 0, 0), -1);
    }

    private static void twoAtOnceForDrifts() {
        GlassRoom x = Due.map(0, 0, 1, 0);
        first(25, "drift: no station, no part", x.drift(2, 3), L - 1);
        first(25, "drift: no station, no hour", x.drift(-1, 0), L - 1);
        first(25, "drift: no part, no hour", x.drift(0, 3), L - 2);
        first(25, "drift: no part, no hour", x.drift(0, -1), L - 2);
        for (int h = 0; h < 4; h++) {
            Due.tellAll(x, h, 7600, 7600);
        }
        for (int k = 0; k < 3; k++) {
            x.mend(0);
        }
        x.gap(0, 0);
        first(26, "mend: full, no hour", x.mend(0), L - 4);
        first(26, "mend: no station, no hour", x.mend(2), L - 1);
    }

    // ---- a refused call changes nothing

    private static GlassRoom someRoom() {
        GlassRoom x = Due.truthful();
        x.set(1, 0, 7);
        x.seal(1, 10, 10, 9, 4);
        x.station(1, 1, 0, 0);
        x.station(6, 5, 300, 1);
        x.station(2, 6, -40, 2);
        int[] step = {0, 0, 12, 12, 12};
        for (int h = 0; h < 5; h++) {
            x.tell(0, h, 7600 + step[h], 0);
            x.tell(1, h, 7400 + h, 10);
            x.tell(2, h, 7650 - h, -10);
        }
        x.gap(2, 4);
        x.mend(0);
        x.benches(4);
        x.difference(0, 1, 100, 1);
        x.difference(1, 2, 50, 2);
        x.difference(2, 0, -140, 3);
        x.difference(2, 3, 9, 9);
        return x;
    }

    /** With 8 stations, 12 differences, one station mended three times, and benches that are not joined. */
    private static GlassRoom fullRoom() {
        GlassRoom x = Due.map(0, 0, 1, 0, 2, 0, 3, 0, 4, 0, 5, 0, 6, 0, 7, 0);
        for (int h = 0; h < 4; h++) {
            Due.tellAll(x, h, 7600 + 3 * h, 7600, 7610, 7620, 7630, 7640, 7650, 7660);
        }
        for (int k = 0; k < 3; k++) {
            x.mend(0);
        }
        x.benches(5);
        for (int k = 0; k < 12; k++) {
            x.difference(k % 4, (k + 1) % 4, 10 * k, 1 + k % 9);
        }
        return x;
    }

    /** All that can be asked of glasses, readings and counts. */
    private static void askGlassesAndStations(GlassRoom x, List<Long> said) {
        for (int g = 0; g < 6; g++) {
            for (int what = 0; what < 6; what++) {
                said.add((long) x.glass(g, what));
            }
            said.add(x.air(g, 0));
            said.add(x.air(g, 1));
            said.add(x.right(g, 7600, 10));
        }
        for (int what = 0; what < 5; what++) {
            said.add((long) x.told(what));
        }
        for (int s = 0; s < 8; s++) {
            for (int h : new int[] {0, 1, 2, 3, 4, 47}) {
                said.add(x.reading(s, h, 0));
                said.add(x.reading(s, h, 1));
                said.add(x.reading(s, h, 4));
            }
            said.add(x.between(0, s, 2));
        }
    }

    /** All that can be asked of benches, map and drift, and then what the next calls that change something answer. */
    private static void askBenchesAndMap(GlassRoom x, List<Long> said) {
        for (int part = 0; part < 2; part++) {
            for (int b = 0; b < 6; b++) {
                said.add(x.height(b, part));
            }
            for (int i = 0; i < 12; i++) {
                said.add(x.off(i, part));
            }
        }
        said.add((long) x.worst());
        said.add(x.closing(0, 1, 2));
        for (int h = 0; h < 5; h++) {
            said.add(x.field(h, 3, 3));
            for (int i = -1; i < 3; i++) {
                said.add((long) x.low(h, i));
            }
            said.add((long) x.follow(0, 0, h));
            for (int what = 0; what < 4; what++) {
                said.add((long) x.lines(h, 7620, what));
                said.add((long) x.line(h, 7620, 0, what));
            }
        }
        for (int s = 0; s < 3; s++) {
            said.add(x.drift(s, 0));
            said.add(x.drift(s, 1));
            said.add(x.mend(s));
        }
        said.add((long) x.station(4, 4, 0, 0));
        said.add((long) x.station(0, 3, 0, 0));
        said.add((long) x.difference(0, 1, 5, 5));
        said.add((long) x.drop());
        said.add((long) x.benches(2));
    }

    private static List<Long> answers(boolean full, Call call) {
        List<Long> said = new ArrayList<>();
        GlassRoom x = full ? fullRoom() : someRoom();
        if (call != null) {
            call.on(x);
        }
        askGlassesAndStations(x, said);
        x = full ? fullRoom() : someRoom();
        if (call != null) {
            call.on(x);
        }
        askBenchesAndMap(x, said);
        return said;
    }

    private static void unchanged(boolean full, Map<String, Call> calls, long... refusals) {
        List<Long> before = answers(full, null);
        for (Map.Entry<String, Call> c : calls.entrySet()) {
            long answer = c.getValue().on(full ? fullRoom() : someRoom());
            boolean refused = Arrays.stream(refusals).anyMatch(r -> r == answer);
            Due.holds(0, c.getKey() + " is refused: " + answer, refused);
            Due.holds(0, c.getKey() + " changes nothing", before.equals(answers(full, c.getValue())));
        }
    }

    /** "They change nothing." */
    private static void refusedCallsChangeNothing() {
        Map<String, Call> calls = new LinkedHashMap<>();
        calls.put("set, no glass", x -> x.set(6, 0, 5));
        calls.put("set, no number", x -> x.set(1, 6, 5));
        for (int what = 0; what < 6; what++) {
            int k = what;
            calls.put("set too little " + k, x -> x.set(1, k, new int[] {-51, 9, 5999, 0, -1, 7999}[k]));
            calls.put("set too much " + k, x -> x.set(1, k, new int[] {51, 1001, 8001, 11, 31, 12001}[k]));
        }
        calls.put("seal, no glass", x -> x.seal(6, 2, 2, 1, 1));
        calls.put("seal, r", x -> x.seal(1, 12001, 2, 1, 1));
        calls.put("seal, s", x -> x.seal(1, 2, 4001, 1, 1));
        calls.put("seal, s alike", x -> x.seal(1, 2, 2, 1, 2));
        calls.put("seal, below 0", x -> x.seal(1, 1, 2, 2, 1));
        calls.put("station, no glass", x -> x.station(4, 4, 0, 6));
        calls.put("station, x", x -> x.station(8, 4, 0, 0));
        calls.put("station, height", x -> x.station(4, 4, 4001, 0));
        calls.put("station, taken", x -> x.station(1, 1, 0, 0));
        calls.put("tell, no station", x -> x.tell(3, 0, 7600, 0));
        calls.put("tell, hour", x -> x.tell(0, 48, 7600, 0));
        calls.put("tell, r, where there is one", x -> x.tell(0, 0, 12001, 0));
        calls.put("tell, w, where there is one", x -> x.tell(0, 0, 7777, 51));
        calls.put("tell, w, in a gap", x -> x.tell(2, 4, 7777, -31));
        calls.put("gap, no station", x -> x.gap(3, 0));
        calls.put("gap, hour", x -> x.gap(0, -1));
        calls.put("benches, too few", x -> x.benches(1));
        calls.put("benches, too many", x -> x.benches(7));
        calls.put("difference, no bench", x -> x.difference(0, 4, 1, 1));
        calls.put("difference, one bench", x -> x.difference(1, 1, 1, 1));
        calls.put("difference, d", x -> x.difference(0, 1, 1000001, 1));
        calls.put("difference, weight", x -> x.difference(0, 1, 1, 0));
        calls.put("mend, no station", x -> x.mend(3));
        unchanged(false, calls, -1, -2, -5, -101, -102, L - 1);
    }

    /** FULL changes nothing either, nor do heights that are not told. */
    private static void refusedCallsChangeNothingInAFullRoom() {
        Map<String, Call> calls = new LinkedHashMap<>();
        calls.put("station, full", x -> x.station(4, 4, 0, 0));
        calls.put("station, full and taken", x -> x.station(0, 0, 0, 0));
        calls.put("difference, full", x -> x.difference(0, 4, 5, 5));
        calls.put("mend, full", x -> x.mend(0));
        calls.put("height, not joined", x -> x.height(1, 0));
        calls.put("off, not joined", x -> x.off(1, 0));
        calls.put("worst, not joined", x -> x.worst());
        unchanged(true, calls, -4, -5, L - 4, L - 5);
    }

    /** Calls that ask, and those that answer NONE, change nothing either. */
    private static void askingChangesNothing() {
        Call[] calls = {x -> x.glass(1, 1), x -> x.air(1, 0), x -> x.right(1, 7000, 3), x -> x.gap(2, 4),
            x -> x.reading(1, 3, 4), x -> x.reading(2, 4, 4), x -> x.rise(9000, 1, 50), x -> x.between(0, 2, 4),
            x -> x.height(3, 1), x -> x.off(3, 0), x -> x.worst(), x -> x.closing(0, 1, 3), x -> x.field(4, 7, 7),
            x -> x.field(40, 7, 7), x -> x.low(40, 0), x -> x.follow(0, 0, 47), x -> x.lines(40, 7600, 0),
            x -> x.lines(3, 7620, 2), x -> x.line(3, 7620, 0, 3), x -> x.line(3, 7620, 99, 3), x -> x.drift(2, 2),
            x -> x.told(4)};
        List<Long> before = answers(false, null);
        for (int k = 0; k < calls.length; k++) {
            Due.holds(0, "asking " + k + " changes nothing", before.equals(answers(false, calls[k])));
        }
        GlassRoom x = Due.map(0, 0, 1, 0);
        Due.due(26, "mend, no hour", x.mend(0), L - 6);
        Due.due(27, "told(4) behind it", x.told(4), 0);
    }

    // ---- any numbers

    private static final int[] ODD = {Due.MIN, -1000001, -31, -1, 0, 1, 5, 47, 48, 7600, 20000, 1000001, Due.MAX};

    /** Every call with odd numbers in all places, on a new room and on two that are in use: none may throw. */
    private static void anyNumbers() throws IllegalAccessException {
        for (Method m : GlassRoom.class.getDeclaredMethods()) {
            if (Modifier.isPublic(m.getModifiers())) {
                for (int kind = 0; kind < 3; kind++) {
                    callWithAll(m, kind);
                }
            }
        }
    }

    private static void callWithAll(Method m, int kind) throws IllegalAccessException {
        int places = m.getParameterCount();
        int all = 1;
        for (int k = 0; k < places; k++) {
            all *= ODD.length;
        }
        // Seal has five places: every 37th way to fill them is plenty.
        int by = places > 4 ? 37 : 1;
        GlassRoom x = null;
        for (int n = 0, calls = 0; n < all; n += by, calls++) {
            if (calls % 300 == 0) {
                x = kind == 0 ? new GlassRoom() : kind == 1 ? someRoom() : fullRoom();
            }
            Object[] numbers = new Object[places];
            for (int k = 0, rest = n; k < places; k++, rest /= ODD.length) {
                numbers[k] = ODD[rest % ODD.length];
            }
            try {
                m.invoke(x, numbers);
            } catch (InvocationTargetException e) {
                Due.holds(0, m.getName() + Arrays.toString(numbers) + " threw " + e.getCause(), false);
            }
        }
    }
}
