import java.util.ArrayList;
import java.util.List;

/** Promises 20 to 24: each sentence that names an edge, with a test of its own. */
public final class MapEdgesTest {
    private static final int[] NO_HOUR = {-1, 48, Due.MIN, Due.MAX};
    private static final int LOW = 7000;
    private static final int HIGH = 8000;

    private MapEdgesTest() { }

    public static void main(String[] args) {
        fieldOutside();
        fieldWithoutReading();
        fieldOfOneStation();
        fieldByDistance();
        fieldAtTheGreatestDistance();
        fieldCut();
        fieldOfEightStations();
        fieldByLevelsAtTheEnds();
        fieldWithGaps();
        lowOutside();
        lowWithoutReading();
        lowNumbers();
        lowAtEveryPoint();
        lowBesideOneAsMuch();
        lowsApartAsMuch();
        lowsTwoApart();
        lowOnALevelMap();
        lowsByNumbers();
        followOutside();
        followNoSuchLow();
        followNoHour();
        followFromSomePointsToAll();
        followTheNearest();
        followTheFirstOfSeveral();
        followLostStaysLost();
        followPastTheLastHour();
        followThroughAllHours();
        linesOutside();
        linesWithoutReading();
        linesAtTheEndsOfV();
        linesRoundOneHighPoint();
        linesRoundOnePointThatIsNotHigh();
        linesAcrossTheMap();
        linesInOrderOfTheirLeastSides();
        saddleAtFourTimesV();
        saddleTurnedAbout();
        saddleInTheMiddle();
        lineUnknown();
        lineOutside();
        lineWithoutReading();
        Due.finish();
    }

    private static void due(int promise, String call, long got, long want) {
        Due.due(promise, call, got, want);
    }

    // ---- a map, and what its words come to when reckoned plainly

    /** Stations at height 0 and what they tell in hour 0: x, y and a level each, within 6601 to 8599. */
    private static final class Told {
        final int[] at;
        final int[] levels;

        Told(int... all) {
            at = new int[all.length / 3 * 2];
            levels = new int[all.length / 3];
            for (int k = 0; k < levels.length; k++) {
                at[2 * k] = all[3 * k];
                at[2 * k + 1] = all[3 * k + 1];
                levels[k] = all[3 * k + 2];
            }
        }

        GlassRoom room() {
            GlassRoom x = Due.map(at);
            Due.tellAll(x, 0, levels);
            return x;
        }

        long field(int point) {
            long sum = 0;
            long weights = 0;
            for (int k = 0; k < levels.length; k++) {
                int dx = at[2 * k] - point % 8;
                int dy = at[2 * k + 1] - point / 8;
                long w = 1000 / (1 + dx * dx + dy * dy);
                sum += w * levels[k];
                weights += w;
            }
            return sum / weights;
        }

        List<Integer> lows() {
            List<Integer> found = new ArrayList<>();
            for (int p = 0; p < 64; p++) {
                boolean low = true;
                for (int q = 0; q < 64; q++) {
                    boolean beside = p != q && square(p, q) <= 2;
                    low = low && !(beside && (field(q) < field(p) || q < p && field(q) == field(p)));
                }
                if (low) {
                    found.add(p);
                }
            }
            return found;
        }
    }

    private static int square(int p, int q) {
        int dx = p % 8 - q % 8;
        int dy = p / 8 - q / 8;
        return dx * dx + dy * dy;
    }

    /** The corner furthest from a point. */
    private static int farCorner(int point) {
        return (point % 8 < 4 ? 7 : 0) + 8 * (point / 8 < 4 ? 7 : 0);
    }

    /** One point told so, the corner furthest from it told otherwise. */
    private static Told onePoint(int point, int level, int other) {
        int far = farCorner(point);
        return new Told(point % 8, point / 8, level, far % 8, far / 8, other);
    }

    // ---- 20: field

    /** "FIELD at a point x, y (0 to 7) in an HOUR": the last that are taken, the first that are refused. */
    private static void fieldOutside() {
        GlassRoom x = Due.map(0, 0);
        x.tell(0, 0, 7600, 0);
        x.tell(0, 47, 7600, 0);
        due(20, "field(0, 0, 7)", x.field(0, 0, 7), 7600);
        due(20, "field(47, 7, 0)", x.field(47, 7, 0), 7600);
        for (int h : NO_HOUR) {
            due(20, "field(" + h + ", 0, 0)", x.field(h, 0, 0), Due.LOST - 2);
        }
        for (int v : new int[] {-1, 8, Due.MIN, Due.MAX}) {
            due(20, "field(0, " + v + ", 0)", x.field(0, v, 0), Due.LOST - 2);
            due(20, "field(0, 0, " + v + ")", x.field(0, 0, v), Due.LOST - 2);
        }
    }

    /** "NONE: there is no READING": no station, none with a reading then, none any more. */
    private static void fieldWithoutReading() {
        GlassRoom x = Due.truthful();
        due(20, "no station", x.field(0, 0, 0), Due.LOST - 6);
        x.station(0, 0, 0, 0);
        x.tell(0, 1, 7600, 0);
        due(20, "a reading in another hour", x.field(0, 0, 0), Due.LOST - 6);
        due(20, "a reading", x.field(1, 0, 0), 7600);
        x.gap(0, 1);
        due(20, "a gap again", x.field(1, 0, 0), Due.LOST - 6);
    }

    private static void fieldOfOneStation() {
        GlassRoom x = Due.map(2, 6);
        x.tell(0, 0, 7600, 0);
        for (int point = 0; point < 64; point++) {
            due(20, "field at " + point, x.field(0, point % 8, point / 8), 7600);
        }
    }

    /** "W being 1000 by (1 and the square of the distance)", cut: at every distance there is. */
    private static void fieldByDistance() {
        Told told = new Told(0, 0, LOW, 7, 7, HIGH);
        GlassRoom x = told.room();
        for (int point = 0; point < 64; point++) {
            due(20, "field at " + point, x.field(0, point % 8, point / 8), told.field(point));
        }
    }

    /** 1000 by 99 is 10, not 10.1; at its own point it is 1000. */
    private static void fieldAtTheGreatestDistance() {
        GlassRoom x = Due.map(0, 0, 7, 7);
        Due.tellAll(x, 0, 7000, 12000);
        due(10, "the level", x.reading(1, 0, 4), 12004);
        due(20, "7049.5", x.field(0, 0, 0), 7049);
        due(20, "11954.4", x.field(0, 7, 7), 11954);
        x = Due.map(7, 0, 0, 7);
        Due.tellAll(x, 0, 7000, 12000);
        due(20, "7049.5, the other corners", x.field(0, 7, 0), 7049);
    }

    /** Quotients are cut: one below a whole one, and at it. */
    private static void fieldCut() {
        GlassRoom x = Due.map(0, 0, 2, 0);
        Due.tellAll(x, 0, 7601, 7600);
        due(20, "halfway, 7600.5", x.field(0, 1, 0), 7600);
        Due.tellAll(x, 0, 7602, 7600);
        due(20, "halfway, 7601", x.field(0, 1, 0), 7601);
        x = Due.map(0, 0, 1, 1);
        Due.tellAll(x, 0, 7600, 7604);
        due(20, "1332 by 1333 short of 7601", x.field(0, 0, 0), 7600);
    }

    private static void fieldOfEightStations() {
        Told told = new Told(0, 0, 7000, 7, 0, 7100, 0, 7, 7200, 7, 7, 7300, 3, 3, 7400, 4, 3, 7500, 3, 4, 7600,
            4, 4, 7700);
        GlassRoom x = told.room();
        for (int point = 0; point < 64; point++) {
            due(20, "field at " + point, x.field(0, point % 8, point / 8), told.field(point));
        }
    }

    /** LEVEL is 1 to 20000: both ends beside one another. */
    private static void fieldByLevelsAtTheEnds() {
        GlassRoom x = Due.truthful();
        x.set(1, 5, 8000);
        x.seal(1, 12000, 4000, 1, 3999);
        x.station(0, 0, 0, 0);
        x.station(2, 0, 0, 1);
        Due.tellAll(x, 0, 1, 7999);
        due(20, "halfway of 1 and 20000", x.field(0, 1, 0), 10000);
        due(20, "at 1", x.field(0, 0, 0), (1000 + 200 * 20000) / 1200);
        due(23, "high at 20000", x.lines(0, 20000, 3), 0);
        x.gap(0, 0);
        due(20, "20000 alone", x.field(0, 7, 7), 20000);
        due(23, "all are high at 20000", x.lines(0, 20000, 3), 64);
        Due.tellAll(x, 0, 1, 0);
        due(20, "1 alone", x.field(0, 7, 7), 1);
        due(23, "all are high at 1", x.lines(0, 1, 3), 64);
        due(23, "none is high at 2", x.lines(0, 2, 3), 0);
    }

    /** "of all STATIONS with a READING then". */
    private static void fieldWithGaps() {
        GlassRoom x = Due.map(0, 0, 1, 0, 2, 0);
        Due.tellAll(x, 0, 7000, 8000, 7500);
        x.gap(1, 0);
        due(20, "halfway, without the middle one", x.field(0, 1, 0), 7250);
        x.gap(0, 0);
        due(20, "the last one alone", x.field(0, 0, 0), 7500);
    }

    // ---- 21: low

    /** "OUTSIDE: the HOUR". */
    private static void lowOutside() {
        GlassRoom x = Due.map(0, 0);
        x.tell(0, 0, 7600, 0);
        x.tell(0, 47, 7600, 0);
        due(21, "low(0, 0)", x.low(0, 0), 0);
        due(21, "low(47, 0)", x.low(47, 0), 0);
        for (int h : NO_HOUR) {
            due(21, "low(" + h + ", -1)", x.low(h, -1), Due.OUTSIDE);
            due(21, "low(" + h + ", 0)", x.low(h, 0), Due.OUTSIDE);
        }
    }

    private static void lowWithoutReading() {
        GlassRoom x = Due.map(0, 0);
        due(21, "how many", x.low(0, -1), 0);
        due(21, "the first", x.low(0, 0), Due.NONE);
        x.tell(0, 0, 7600, 0);
        due(21, "how many, told", x.low(0, -1), 1);
        due(21, "in another hour", x.low(1, -1), 0);
        due(21, "the first in another hour", x.low(1, 0), Due.NONE);
        x.gap(0, 0);
        due(21, "how many, a gap again", x.low(0, -1), 0);
        due(21, "the first, a gap again", x.low(0, 0), Due.NONE);
    }

    /** "how many (i = -1), the i-th by numbers: the point; NONE": no other number is outside. */
    private static void lowNumbers() {
        GlassRoom x = Due.map(0, 0);
        x.tell(0, 0, 7600, 0);
        for (int i : new int[] {1, 2, 63, 64, -2, -3, Due.MIN, Due.MAX}) {
            due(21, "low(0, " + i + ")", x.low(0, i), Due.NONE);
        }
    }

    /** "Points are numbered 8 y and x"; "none of the (up to 8) beside which has less": corners, borders, within. */
    private static void lowAtEveryPoint() {
        for (int point = 0; point < 64; point++) {
            Told told = onePoint(point, LOW, HIGH);
            GlassRoom x = told.room();
            List<Integer> lows = told.lows();
            due(21, "how many with one at " + point, x.low(0, -1), lows.size());
            Due.holds(21, "one is at " + point, lows.contains(point));
            for (int i = 0; i < lows.size(); i++) {
                due(21, "low " + i + " with one at " + point, x.low(0, i), lows.get(i));
            }
        }
    }

    /** "and none of these with a lesser number as much": beside it, below it, and at both corners below it. */
    private static void lowBesideOneAsMuch() {
        int[][] twos = {{27, 28}, {27, 35}, {27, 36}, {28, 35}};
        for (int[] two : twos) {
            Told told = new Told(two[0] % 8, two[0] / 8, LOW, two[1] % 8, two[1] / 8, LOW, 0, 0, HIGH, 7, 0, HIGH,
                0, 7, HIGH, 7, 7, HIGH);
            GlassRoom x = told.room();
            due(21, two[0] + " and " + two[1] + " are as low", x.field(0, two[0] % 8, two[0] / 8),
                x.field(0, two[1] % 8, two[1] / 8));
            due(21, "one low of " + two[0] + " and " + two[1], x.low(0, -1), 1);
            due(21, "that with the lesser number", x.low(0, 0), two[0]);
        }
    }

    /** As much, but not beside one another: both are lows. */
    private static void lowsApartAsMuch() {
        Told told = new Told(2, 3, LOW, 5, 3, LOW, 3, 3, HIGH, 4, 3, HIGH, 0, 0, HIGH, 7, 0, HIGH, 0, 7, HIGH, 7, 7, HIGH);
        GlassRoom x = told.room();
        due(21, "as low", x.field(0, 2, 3), x.field(0, 5, 3));
        due(21, "how many", x.low(0, -1), 2);
        due(21, "the first", x.low(0, 0), 26);
        due(21, "the second", x.low(0, 1), 29);
        due(21, "no third", x.low(0, 2), Due.NONE);
    }

    /** "beside which": a point two off is not beside it, though it has less. */
    private static void lowsTwoApart() {
        int[][] steps = {{1, 0}, {0, 1}, {1, 1}};
        for (int[] step : steps) {
            for (int k = 0; k < 2; k++) {
                Told told = new Told(2, 2, k == 0 ? 6700 : 6800, 2 + step[0], 2 + step[1], 8500,
                    2 + 2 * step[0], 2 + 2 * step[1], k == 0 ? 6800 : 6700, 0, 0, 8500, 7, 0, 8500, 0, 7, 8500,
                    7, 7, 8500);
                GlassRoom x = told.room();
                int other = 18 + 2 * step[0] + 16 * step[1];
                Due.holds(20, "one has less", told.field(18) < told.field(other) == (k == 0));
                due(21, "how many", x.low(0, -1), 2);
                due(21, "the first", x.low(0, 0), 18);
                due(21, "the second", x.low(0, 1), other);
            }
        }
    }

    /** All points alike: only point 0 has none with a lesser number beside it. */
    private static void lowOnALevelMap() {
        for (int point : new int[] {0, 7, 27, 56, 63}) {
            GlassRoom x = Due.map(point % 8, point / 8);
            x.tell(0, 0, 7600, 0);
            due(21, "how many", x.low(0, -1), 1);
            due(21, "the first", x.low(0, 0), 0);
        }
    }

    private static void lowsByNumbers() {
        Told told = new Told(7, 7, LOW, 0, 7, LOW, 7, 0, LOW, 0, 0, LOW, 3, 3, HIGH, 4, 3, HIGH, 3, 4, HIGH, 4, 4, HIGH);
        GlassRoom x = told.room();
        int[] corners = {0, 7, 56, 63};
        due(21, "how many", x.low(0, -1), 4);
        for (int i = 0; i < 4; i++) {
            due(21, "low " + i, x.low(0, i), corners[i]);
        }
        due(21, "no fifth", x.low(0, 4), Due.NONE);
    }

    // ---- 22: follow

    /** "OUTSIDE: the HOUR, n": "n 0 to 47". */
    private static void followOutside() {
        GlassRoom x = Due.map(0, 0);
        x.tell(0, 0, 7600, 0);
        for (int h : NO_HOUR) {
            due(22, "follow(" + h + ", 0, 0)", x.follow(h, 0, 0), Due.OUTSIDE);
        }
        for (int n : new int[] {-1, 48, Due.MIN, Due.MAX}) {
            due(22, "follow(0, 0, " + n + ")", x.follow(0, 0, n), Due.OUTSIDE);
        }
        due(22, "follow(0, 0, 47)", x.follow(0, 0, 47), Due.NONE);
        due(22, "follow(47, 0, 47)", x.follow(47, 0, 47), Due.NONE);
    }

    /** "(or there is no such LOW)": -1 is no low either, and none is outside. */
    private static void followNoSuchLow() {
        GlassRoom x = Due.map(0, 0);
        for (int h = 0; h < 3; h++) {
            x.tell(0, h, 7600, 0);
        }
        for (int i : new int[] {-1, 1, 64, Due.MIN, Due.MAX}) {
            due(22, "follow(0, " + i + ", 0)", x.follow(0, i, 0), Due.NONE);
            due(22, "follow(0, " + i + ", 1)", x.follow(0, i, 1), Due.NONE);
        }
        due(22, "no reading", x.follow(5, 0, 0), Due.NONE);
        due(22, "no reading, next hour", x.follow(5, 0, 1), Due.NONE);
    }

    /** "after n HOURS (n 0 ..)": then it is the low itself. */
    private static void followNoHour() {
        Told told = new Told(2, 3, LOW, 5, 3, LOW, 3, 3, HIGH, 4, 3, HIGH, 0, 0, HIGH, 7, 0, HIGH, 0, 7, HIGH, 7, 7, HIGH);
        GlassRoom x = told.room();
        due(22, "follow(0, 0, 0)", x.follow(0, 0, 0), 26);
        due(22, "follow(0, 1, 0)", x.follow(0, 1, 0), 29);
        due(22, "follow(0, 2, 0)", x.follow(0, 2, 0), Due.NONE);
    }

    /** "if that square is 8 at most": from three points to every other one. */
    private static void followFromSomePointsToAll() {
        for (int point = 0; point < 64; point++) {
            Told next = onePoint(point, LOW, HIGH);
            if (next.lows().size() == 1 && next.lows().get(0) == point) {
                followOneStep(27, point);
                followOneStep(42, point);
                followOneStep(21, point);
            }
        }
        for (int point : new int[] {45, 30, 24, 60, 39}) {
            due(22, point + " is among them", onePoint(point, LOW, HIGH).lows().size(), 1);
        }
    }

    private static void followOneStep(int start, int point) {
        int far = farCorner(point);
        GlassRoom x = Due.truthful();
        int first = x.station(start % 8, start / 8, 0, 0);
        int corner = x.station(far % 8, far / 8, 0, 0);
        int second = point == start ? first : x.station(point % 8, point / 8, 0, 0);
        x.tell(first, 0, LOW, 0);
        x.tell(corner, 0, HIGH, 0);
        x.tell(second, 1, LOW, 0);
        x.tell(corner, 1, HIGH, 0);
        if (x.low(0, -1) == 1) {
            due(22, "it starts at " + start, x.follow(0, 0, 0), start);
            due(22, "from " + start + " to " + point, x.follow(0, 0, 1),
                square(start, point) <= 8 ? point : Due.NONE);
        }
    }

    /** "that of the next HOUR that is nearest": not the first by number. */
    private static void followTheNearest() {
        GlassRoom x = Due.map(4, 4, 2, 4, 5, 4, 0, 0, 7, 0, 0, 7, 7, 7, 3, 4);
        Due.tellAll(x, 0, LOW, 0, 0, HIGH, HIGH, HIGH, HIGH, 0);
        Due.tellAll(x, 1, HIGH, LOW, LOW, HIGH, HIGH, HIGH, HIGH, HIGH);
        due(22, "two lows", x.low(1, -1), 2);
        due(22, "the first is 4 away", x.low(1, 0), 34);
        due(22, "the second is 1 away", x.low(1, 1), 37);
        due(22, "the nearest", x.follow(0, 0, 1), 37);
    }

    /** "of several the first": as near to both. */
    private static void followTheFirstOfSeveral() {
        GlassRoom x = Due.map(4, 4, 2, 4, 6, 4, 4, 2, 4, 6, 0, 0, 7, 7);
        Due.tellAll(x, 0, LOW, 0, 0, 0, 0, HIGH, HIGH);
        Due.tellAll(x, 1, HIGH, LOW, LOW, 0, 0, HIGH, HIGH);
        Due.tellAll(x, 2, HIGH, 0, 0, LOW, LOW, HIGH, HIGH);
        due(22, "it starts at 36", x.follow(0, 0, 0), 36);
        due(22, "left and right", x.low(1, 0) * 100 + x.low(1, 1), 3438);
        due(22, "the first of left and right", x.follow(0, 0, 1), 34);
        GlassRoom y = Due.map(4, 4, 2, 4, 6, 4, 4, 2, 4, 6, 0, 0, 7, 7);
        Due.tellAll(y, 0, LOW, 0, 0, 0, 0, HIGH, HIGH);
        Due.tellAll(y, 1, HIGH, 0, 0, LOW, LOW, HIGH, HIGH);
        due(22, "below and above", y.low(1, 0) * 100 + y.low(1, 1), 2052);
        due(22, "the first of below and above", y.follow(0, 0, 1), 20);
    }

    /** "NONE: it is lost by then": by a gap of an hour, or a step too far, though lows are near again. */
    private static void followLostStaysLost() {
        GlassRoom x = Due.map(2, 2, 5, 2, 7, 7);
        for (int h = 0; h < 6; h++) {
            Due.tellAll(x, h, LOW, 0, HIGH);
        }
        due(22, "it stays", x.follow(0, 0, 5), 18);
        Due.tellAll(x, 3, 0, 0, 0);
        due(22, "ahead of the gap", x.follow(0, 0, 2), 18);
        due(22, "in the gap", x.follow(0, 0, 3), Due.NONE);
        due(22, "behind the gap", x.follow(0, 0, 4), Due.NONE);
        due(22, "from behind the gap", x.follow(4, 0, 1), 18);
        Due.tellAll(x, 3, 0, LOW, HIGH);
        due(22, "9 away", x.follow(0, 0, 3), Due.NONE);
        due(22, "near again", x.follow(0, 0, 4), Due.NONE);
    }

    /** There is no hour behind 47. */
    private static void followPastTheLastHour() {
        GlassRoom x = Due.map(0, 0);
        for (int h = 0; h < 48; h++) {
            x.tell(0, h, 7600, 0);
        }
        for (int h : new int[] {0, 1, 30, 46, 47}) {
            due(22, "from " + h + " to 47", x.follow(h, 0, 47 - h), 0);
            due(22, "from " + h + " past 47", x.follow(h, 0, Math.min(47, 48 - h)), h == 0 ? 0 : Due.NONE);
            due(22, "from " + h + " by 47", x.follow(h, 0, 47), h == 0 ? 0 : Due.NONE);
        }
    }

    /** Hour by hour a step on: what counts is the square of each step, not of all. */
    private static void followThroughAllHours() {
        GlassRoom x = Due.map(0, 0, 2, 2, 4, 4, 6, 6, 0, 7, 7, 0);
        int[] there = {0, 1, 2, 3, 2, 1};
        for (int h = 0; h < 48; h++) {
            int[] told = {0, 0, 0, 0, HIGH, HIGH};
            told[there[h % 6]] = LOW;
            for (int s = 0; s < 6; s++) {
                if (told[s] != 0) {
                    x.tell(s, h, told[s], 0);
                }
            }
        }
        int[] points = {0, 18, 36, 54};
        for (int n = 0; n < 48; n++) {
            due(22, "after " + n + " hours", x.follow(0, 0, n), points[there[n % 6]]);
        }
    }

    // ---- 23: lines

    private static void lines(GlassRoom x, int v, int... want) {
        for (int what = 0; what < 4; what++) {
            due(23, "lines(0, " + v + ", " + what + ")", x.lines(0, v, what), want[what]);
        }
    }

    private static void line(GlassRoom x, int v, int i, int... want) {
        for (int what = 0; what < 4; what++) {
            due(24, "line(0, " + v + ", " + i + ", " + what + ")", x.line(0, v, i, what), want[what]);
        }
    }

    /** "LINES at v (1 to 20000)", what 0 to 3, and the HOUR: the last that are taken, the first that are refused. */
    private static void linesOutside() {
        GlassRoom x = Due.map(0, 0);
        x.tell(0, 0, 7600, 0);
        x.tell(0, 47, 7600, 0);
        due(23, "lines(0, 1, 3)", x.lines(0, 1, 3), 64);
        due(23, "lines(47, 20000, 0)", x.lines(47, 20000, 0), 0);
        for (int h : NO_HOUR) {
            due(23, "lines(" + h + ", 7600, 0)", x.lines(h, 7600, 0), Due.OUTSIDE);
        }
        for (int v : new int[] {0, 20001, -1, Due.MIN, Due.MAX}) {
            due(23, "lines(0, " + v + ", 0)", x.lines(0, v, 0), Due.OUTSIDE);
        }
        for (int what : new int[] {-1, 4, Due.MIN, Due.MAX}) {
            due(23, "lines(0, 7600, " + what + ")", x.lines(0, 7600, what), Due.OUTSIDE);
        }
    }

    /** "STATE: there is no READING": no station, another hour, a gap again. */
    private static void linesWithoutReading() {
        GlassRoom x = Due.truthful();
        for (int what = 0; what < 4; what++) {
            due(23, "no station", x.lines(0, 7600, what), Due.STATE);
        }
        x.station(0, 0, 0, 0);
        x.tell(0, 1, 7600, 0);
        due(23, "another hour", x.lines(0, 7600, 3), Due.STATE);
        due(23, "a reading", x.lines(1, 7600, 3), 64);
        x.gap(0, 1);
        due(23, "a gap again", x.lines(1, 7600, 3), Due.STATE);
    }

    /** "a point is HIGH, if its FIELD is v or more": all as much as v, and one more. */
    private static void linesAtTheEndsOfV() {
        GlassRoom x = Due.map(3, 3);
        x.tell(0, 0, 7600, 0);
        lines(x, 7599, 0, 0, 0, 64);
        lines(x, 7600, 0, 0, 0, 64);
        lines(x, 7601, 0, 0, 0, 0);
        lines(x, 1, 0, 0, 0, 64);
        lines(x, 20000, 0, 0, 0, 0);
    }

    /** The sides round one point: two at a corner, three at the border, four within, and then it is ROUND. */
    private static int[] sidesRound(int point) {
        int x = point % 8;
        int y = point / 8;
        int[] all = {x > 0 ? 16 * y + 2 * x - 2 : -1, x < 7 ? 16 * y + 2 * x : -1, y > 0 ? 16 * y - 16 + 2 * x + 1 : -1,
            y < 7 ? 16 * y + 2 * x + 1 : -1};
        int count = 0;
        int least = 999;
        int greatest = -1;
        for (int side : all) {
            if (side >= 0) {
                count++;
                least = Math.min(least, side);
                greatest = Math.max(greatest, side);
            }
        }
        return new int[] {count, count == 4 ? 1 : 0, least, greatest};
    }

    /** "16 y and 2 x that from x, y to the right, 1 more that upward"; "LINES end at the border, or are ROUND." */
    private static void linesRoundOneHighPoint() {
        for (int point = 0; point < 64; point++) {
            Told told = onePoint(point, HIGH, LOW);
            GlassRoom x = told.room();
            int v = (int) told.field(point);
            int[] sides = sidesRound(point);
            lines(x, v, 1, sides[1], sides[0], 1);
            line(x, v, 0, sides);
            lines(x, v + 1, 0, 0, 0, 0);
        }
    }

    private static void linesRoundOnePointThatIsNotHigh() {
        for (int point = 0; point < 64; point++) {
            Told told = onePoint(point, LOW, HIGH);
            GlassRoom x = told.room();
            int v = (int) told.field(point) + 1;
            int[] sides = sidesRound(point);
            lines(x, v, 1, sides[1], sides[0], 63);
            line(x, v, 0, sides);
            lines(x, v - 1, 0, 0, 0, 64);
        }
    }

    /** From border to border, either way, and the least and greatest sides that such a line can have. */
    private static void linesAcrossTheMap() {
        Told upward = new Told(0, 0, LOW, 0, 7, LOW, 7, 0, HIGH, 7, 7, HIGH);
        lines(upward.room(), 7500, 1, 0, 8, 32);
        line(upward.room(), 7500, 0, 8, 0, 6, 118);
        Told across = new Told(0, 0, LOW, 7, 0, LOW, 0, 7, HIGH, 7, 7, HIGH);
        lines(across.room(), 7500, 1, 0, 8, 32);
        line(across.room(), 7500, 0, 8, 0, 49, 63);
    }

    /** "They are in order of the least of their SIDES": at a corner, at two borders and within, told in no order. */
    private static void linesInOrderOfTheirLeastSides() {
        Told told = new Told(6, 7, 8000, 1, 5, 8000, 7, 0, 8000, 0, 2, 8000, 3, 6, 7500, 5, 2, 7000, 2, 0, 7000,
            3, 7, 7000);
        GlassRoom x = told.room();
        int v = 7819;
        int[] points = {7, 16, 41, 62};
        for (int p = 0; p < 64; p++) {
            boolean high = p == 7 || p == 16 || p == 41 || p == 62;
            Due.holds(20, "only those four are high: " + p, told.field(p) >= v == high);
        }
        lines(x, v, 4, 1, 12, 4);
        for (int i = 0; i < 4; i++) {
            line(x, v, i, sidesRound(points[i]));
        }
        due(24, "no fifth", x.line(0, v, 4, 0), Due.UNKNOWN);
    }

    /**
     * "if its four points together are less than 4 v; else round those that are not": at 0, 0 and 1, 1 the field is
     * 7571, beside them 7429, together 30000. That is not less than 4 times 7500.
     */
    private static void saddleAtFourTimesV() {
        Told told = new Told(0, 0, 8000, 1, 1, 8000, 1, 0, 7001, 0, 1, 7001);
        due(23, "together", told.field(0) + told.field(9) + told.field(1) + told.field(8), 30000);
        GlassRoom x = told.room();
        due(24, "one less: round those that are not", x.line(0, 7499, 0, 0) > 2 ? 1 : 0, 1);
        due(24, "just so: round those that are not", x.line(0, 7500, 0, 0) > 2 ? 1 : 0, 1);
        due(24, "just so: the second begins upward", x.line(0, 7500, 1, 2), 1);
        line(x, 7501, 0, 2, 0, 0, 1);
        due(24, "one more: the second begins in the square", x.line(0, 7501, 1, 2), 3);
    }

    /** The same with the high ones at the square's other two points. */
    private static void saddleTurnedAbout() {
        Told told = new Told(1, 0, 8000, 0, 1, 8000, 0, 0, 7001, 1, 1, 7001);
        GlassRoom x = told.room();
        line(x, 7499, 0, 2, 0, 0, 1);
        line(x, 7500, 0, 2, 0, 0, 1);
        due(24, "just so: round those that are not", x.line(0, 7500, 1, 2), 3);
        due(24, "one more: round the high ones", x.line(0, 7501, 0, 0) > 2 ? 1 : 0, 1);
        due(24, "one more: the second begins upward", x.line(0, 7501, 1, 2), 1);
    }

    /** In the middle two open lines meet: which sides go on to which is told by the sum of the four points. */
    private static void saddleInTheMiddle() {
        Told told = new Told(3, 3, 8000, 4, 4, 8000, 4, 3, 7001, 3, 4, 7001);
        due(23, "together", told.field(27) + told.field(36) + told.field(28) + told.field(35), 30000);
        GlassRoom x = told.room();
        lines(x, 7500, 2, 0, 16, 32);
        line(x, 7500, 0, 8, 0, 6, 63);
        line(x, 7500, 1, 8, 0, 49, 118);
        lines(x, 7501, 2, 0, 16, 32);
        line(x, 7501, 0, 8, 0, 6, 55);
        line(x, 7501, 1, 8, 0, 57, 118);
        x = new Told(4, 3, 8000, 3, 4, 8000, 3, 3, 7001, 4, 4, 7001).room();
        lines(x, 7500, 2, 0, 16, 32);
        line(x, 7500, 0, 8, 0, 6, 55);
        line(x, 7500, 1, 8, 0, 57, 118);
        lines(x, 7501, 2, 0, 16, 32);
        line(x, 7501, 0, 8, 0, 6, 63);
        line(x, 7501, 1, 8, 0, 49, 118);
    }

    // ---- 24: line

    /** "UNKNOWN: there is no such LINE": below 0, as many as there are, and where there is none at all. */
    private static void lineUnknown() {
        GlassRoom x = onePoint(27, HIGH, LOW).room();
        int v = (int) x.field(0, 3, 3);
        due(24, "the only one", x.line(0, v, 0, 0), 4);
        for (int i : new int[] {-1, 1, 64, 127, 128, Due.MIN, Due.MAX}) {
            for (int what = 0; what < 4; what++) {
                due(24, "line(0, v, " + i + ", " + what + ")", x.line(0, v, i, what), Due.UNKNOWN);
            }
        }
        for (int what = 0; what < 4; what++) {
            due(24, "none at all", x.line(0, v + 1, 0, what), Due.UNKNOWN);
            due(24, "all are high", x.line(0, 1, 0, what), Due.UNKNOWN);
        }
    }

    /** "OUTSIDE: HOUR, v, what (ahead)". */
    private static void lineOutside() {
        GlassRoom x = onePoint(27, HIGH, LOW).room();
        int v = (int) x.field(0, 3, 3);
        for (int i : new int[] {0, 1, -1}) {
            for (int h : NO_HOUR) {
                due(24, "line(" + h + ", v, " + i + ", 0)", x.line(h, v, i, 0), Due.OUTSIDE);
            }
            for (int bad : new int[] {0, 20001, Due.MIN, Due.MAX}) {
                due(24, "line(0, " + bad + ", " + i + ", 0)", x.line(0, bad, i, 0), Due.OUTSIDE);
            }
            for (int what : new int[] {-1, 4, Due.MIN, Due.MAX}) {
                due(24, "line(0, v, " + i + ", " + what + ")", x.line(0, v, i, what), Due.OUTSIDE);
            }
        }
        due(24, "v 1 is taken", x.line(0, 1, 0, 0), Due.UNKNOWN);
        due(24, "v 20000 is taken", x.line(0, 20000, 0, 0), Due.UNKNOWN);
    }

    /** "STATE, likewise": whatever line is asked for. */
    private static void lineWithoutReading() {
        GlassRoom x = onePoint(27, HIGH, LOW).room();
        for (int i : new int[] {0, 1, -1, Due.MIN, Due.MAX}) {
            due(24, "another hour, line " + i, x.line(1, 7600, i, 0), Due.STATE);
        }
        x.gap(0, 0);
        due(24, "still one reading", x.line(0, 7600, 0, 0), Due.UNKNOWN);
        x.gap(1, 0);
        due(24, "gaps again", x.line(0, 7600, 0, 0), Due.STATE);
        due(24, "what is outside ahead of it", x.line(0, 7600, 0, 4), Due.OUTSIDE);
    }
}
