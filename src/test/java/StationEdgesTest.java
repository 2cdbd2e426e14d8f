/** Promises 7 to 12: each sentence that names an edge, with a test of its own. */
public final class StationEdgesTest {
    private static final int[] NO_HOUR = {-1, 48, Due.MIN, Due.MAX};

    private StationEdgesTest() { }

    public static void main(String[] args) {
        stationAtTheEnds();
        stationPastTheEnds();
        stationsEightAtMost();
        stationAtATakenPlace();
        stationNumbersHaveNoHoles();
        tellAtTheEnds();
        tellPastTheEnds();
        tellUnknown();
        tellWhereThereWasOne();
        tellOneStationInOneHour();
        gapAsItWas();
        gapOutside();
        gapAtFirst();
        readingOutside();
        readingByTheGlassAsItIsNow();
        readingMendedIsNotHeld();
        riseAtTheEnds();
        risePastTheEnds();
        riseCutEach();
        riseCutByWarmth();
        levelAtHeightNone();
        levelHeldAhead();
        levelJustReachedAbove();
        levelJustReachedBelow();
        levelByWarmth();
        levelOfTheLeast();
        levelNoneAbove();
        levelNoneBelow();
        levelsOneByOne();
        betweenAlike();
        betweenBelowNone();
        betweenHeld();
        betweenByHalfTheWarmths();
        betweenGaps();
        betweenRefused();
        Due.finish();
    }

    private static void due(int promise, String call, long got, long want) {
        Due.due(promise, call, got, want);
    }

    // ---- 7: station

    /** "on a map at x, y (0 to 7 both), a height (-400 to 4000 metres), a GLASS": the last that are taken. */
    private static void stationAtTheEnds() {
        GlassRoom x = new GlassRoom();
        due(7, "station(0, 0, -400, 0)", x.station(0, 0, -400, 0), 0);
        due(7, "station(7, 0, 4000, 5)", x.station(7, 0, 4000, 5), 1);
        due(7, "station(0, 7, 4000, 0)", x.station(0, 7, 4000, 0), 2);
        due(7, "station(7, 7, -400, 5)", x.station(7, 7, -400, 5), 3);
    }

    /** The first that are refused. */
    private static void stationPastTheEnds() {
        GlassRoom x = new GlassRoom();
        for (int v : new int[] {-1, 8, Due.MIN, Due.MAX}) {
            due(7, "station(" + v + ", 0, 0, 0)", x.station(v, 0, 0, 0), Due.OUTSIDE);
            due(7, "station(0, " + v + ", 0, 0)", x.station(0, v, 0, 0), Due.OUTSIDE);
        }
        for (int v : new int[] {-401, 4001, Due.MIN, Due.MAX}) {
            due(7, "station(0, 0, " + v + ", 0)", x.station(0, 0, v, 0), Due.OUTSIDE);
        }
        for (int v : new int[] {-1, 6, Due.MIN, Due.MAX}) {
            due(7, "station(0, 0, 0, " + v + ")", x.station(0, 0, 0, v), Due.UNKNOWN);
        }
        due(27, "told(0) behind refusals", x.told(0), 0);
        due(7, "the first one's number", x.station(0, 0, 0, 0), 0);
    }

    /** "STATIONS, 8 at most, numbered from 0 on": eight, and one more. */
    private static void stationsEightAtMost() {
        GlassRoom x = new GlassRoom();
        for (int k = 0; k < 8; k++) {
            due(27, "told(0)", x.told(0), k);
            due(7, "station " + k, x.station(k, 7 - k, 100 * k, k % 6), k);
        }
        due(7, "station 8", x.station(0, 0, 0, 0), Due.FULL);
        due(27, "told(0)", x.told(0), 8);
        due(8, "tell to the last", x.tell(7, 0, 7600, 0), 1);
        due(8, "tell to one more", x.tell(8, 0, 7600, 0), Due.UNKNOWN);
        due(20, "the refused one has no share", x.field(0, 0, 0), x.reading(7, 0, 4));
    }

    /** "NO: one is at x, y": only both alike count, whatever else is unlike. */
    private static void stationAtATakenPlace() {
        GlassRoom x = new GlassRoom();
        x.station(2, 5, 100, 1);
        due(7, "the same place", x.station(2, 5, 200, 2), Due.NO);
        due(7, "x and y changed about", x.station(5, 2, 100, 1), 1);
        due(7, "x alike", x.station(2, 4, 100, 1), 2);
        due(7, "y alike", x.station(3, 5, 100, 1), 3);
        due(7, "the place of the last", x.station(3, 5, 100, 1), Due.NO);
        due(27, "told(0)", x.told(0), 4);
    }

    private static void stationNumbersHaveNoHoles() {
        GlassRoom x = new GlassRoom();
        for (int k = 0; k < 8; k++) {
            x.station(k, 8, 0, 0);
            x.station(k, 0, 0, 6);
            x.station(k, 0, 9999, 0);
            due(7, "station " + k + " behind refusals", x.station(k, 0, 0, 0), k);
            x.station(k, 0, 0, 0);
        }
    }

    // ---- 8: tell

    /** "For HOURS 0 to 47", r 1 to 12000, w -30 to 50: the last that are taken. */
    private static void tellAtTheEnds() {
        GlassRoom x = Due.map(0, 0);
        due(8, "tell(0, 0, 1, -30)", x.tell(0, 0, 1, -30), 1);
        due(8, "tell(0, 47, 12000, 50)", x.tell(0, 47, 12000, 50), 1);
        due(10, "reading(0, 0, 0)", x.reading(0, 0, 0), 1);
        due(10, "reading(0, 0, 1)", x.reading(0, 0, 1), -30);
        due(10, "reading(0, 47, 0)", x.reading(0, 47, 0), 12000);
        due(10, "reading(0, 47, 1)", x.reading(0, 47, 1), 50);
    }

    /** The first that are refused; what was told stays. */
    private static void tellPastTheEnds() {
        GlassRoom x = Due.map(0, 0);
        x.tell(0, 0, 7000, 7);
        for (int h : NO_HOUR) {
            due(8, "tell(0, " + h + ", 7600, 0)", x.tell(0, h, 7600, 0), Due.OUTSIDE);
        }
        for (int r : new int[] {0, 12001, Due.MIN, Due.MAX}) {
            due(8, "tell(0, 0, " + r + ", 0)", x.tell(0, 0, r, 0), Due.OUTSIDE);
            due(8, "tell(0, 1, " + r + ", 0)", x.tell(0, 1, r, 0), Due.OUTSIDE);
        }
        for (int w : new int[] {-31, 51, Due.MIN, Due.MAX}) {
            due(8, "tell(0, 0, 7600, " + w + ")", x.tell(0, 0, 7600, w), Due.OUTSIDE);
            due(8, "tell(0, 1, 7600, " + w + ")", x.tell(0, 1, 7600, w), Due.OUTSIDE);
        }
        due(10, "what was told stays", x.reading(0, 0, 0), 7000);
        due(10, "its warmth stays", x.reading(0, 0, 1), 7);
        due(10, "a gap stays", x.reading(0, 1, 0), Due.LOST - 6);
        due(27, "told(1)", x.told(1), 1);
    }

    /** "UNKNOWN": below 0, as many as there are, and far past it. */
    private static void tellUnknown() {
        GlassRoom x = Due.map(0, 0, 1, 1);
        for (int s : new int[] {-1, 2, 7, 8, Due.MIN, Due.MAX}) {
            due(8, "tell(" + s + ", ..)", x.tell(s, 0, 7600, 0), Due.UNKNOWN);
            due(9, "gap(" + s + ", 0)", x.gap(s, 0), Due.UNKNOWN);
            due(10, "reading(" + s + ", 0, 0)", x.reading(s, 0, 0), Due.LOST - 1);
        }
        due(8, "tell(1, ..)", x.tell(1, 0, 7600, 0), 1);
    }

    /** "1 (2: there was one)": the latest counts, with its own warmth. */
    private static void tellWhereThereWasOne() {
        GlassRoom x = Due.map(0, 0);
        due(8, "the first", x.tell(0, 9, 7600, 10), 1);
        due(8, "the second", x.tell(0, 9, 7000, -10), 2);
        due(8, "the same again", x.tell(0, 9, 7000, -10), 2);
        due(10, "the latest", x.reading(0, 9, 0), 7000);
        due(10, "its warmth", x.reading(0, 9, 1), -10);
        due(27, "told(1): still one", x.told(1), 1);
        x.gap(0, 9);
        due(8, "behind a gap", x.tell(0, 9, 7600, 0), 1);
    }

    private static void tellOneStationInOneHour() {
        GlassRoom x = Due.map(0, 0, 1, 1, 2, 2);
        x.tell(1, 20, 7600, 0);
        for (int s = 0; s < 3; s++) {
            for (int h = 19; h <= 21; h++) {
                due(8, "reading(" + s + ", " + h + ", 0)", x.reading(s, h, 0),
                    s == 1 && h == 20 ? 7600 : Due.LOST - 6);
            }
        }
    }

    // ---- 9: gap

    /** "1, 0: it was". */
    private static void gapAsItWas() {
        GlassRoom x = Due.map(0, 0, 1, 1);
        due(9, "gap, never told", x.gap(0, 0), 0);
        x.tell(0, 0, 7600, 0);
        x.tell(0, 1, 7600, 0);
        x.tell(1, 0, 7600, 0);
        due(9, "gap, told", x.gap(0, 0), 1);
        due(9, "gap again", x.gap(0, 0), 0);
        due(10, "it is a gap", x.reading(0, 0, 0), Due.LOST - 6);
        due(10, "the next hour is none", x.reading(0, 1, 0), 7600);
        due(10, "another station's is none", x.reading(1, 0, 0), 7600);
        due(27, "told(1)", x.told(1), 2);
    }

    private static void gapOutside() {
        GlassRoom x = Due.map(0, 0);
        x.tell(0, 0, 7600, 0);
        x.tell(0, 47, 7600, 0);
        for (int h : NO_HOUR) {
            due(9, "gap(0, " + h + ")", x.gap(0, h), Due.OUTSIDE);
        }
        due(27, "told(1) behind refusals", x.told(1), 2);
        due(9, "gap(0, 0)", x.gap(0, 0), 1);
        due(9, "gap(0, 47)", x.gap(0, 47), 1);
    }

    /** "or a GAP (at first)": in all 48 hours, whatever is asked. */
    private static void gapAtFirst() {
        GlassRoom x = Due.map(0, 0);
        for (int h = 0; h < 48; h++) {
            for (int what = 0; what < 5; what++) {
                due(10, "reading(0, " + h + ", " + what + ")", x.reading(0, h, what), Due.LOST - 6);
            }
            due(9, "gap(0, " + h + ")", x.gap(0, h), 0);
        }
    }

    // ---- 10: reading

    private static void readingOutside() {
        GlassRoom x = Due.map(0, 0);
        x.tell(0, 0, 7600, 0);
        for (int h : NO_HOUR) {
            due(10, "reading(0, " + h + ", 0)", x.reading(0, h, 0), Due.LOST - 2);
        }
        for (int what : new int[] {-1, 5, Due.MIN, Due.MAX}) {
            due(10, "reading(0, 0, " + what + ")", x.reading(0, 0, what), Due.LOST - 2);
        }
    }

    /** "RIGHT by its GLASS as it is now": set and seal count for what was told ahead of them. */
    private static void readingByTheGlassAsItIsNow() {
        GlassRoom x = Due.truthful();
        x.station(0, 0, 0, 0);
        x.station(1, 0, 0, 1);
        x.station(2, 0, 0, 0);
        for (int s = 0; s < 3; s++) {
            x.tell(s, 0, 7999, 0);
        }
        x.set(0, 5, 8000);
        x.seal(0, 3, 2, 1, 1);
        for (int what = 2; what <= 4; what++) {
            due(10, "its glass has air, what " + what, x.reading(0, 0, what), 8003);
            due(10, "another glass has none, what " + what, x.reading(1, 0, what), 7999);
            due(10, "two stations with one glass, what " + what, x.reading(2, 0, what), 8003);
        }
        due(10, "what it read stays", x.reading(0, 0, 0), 7999);
        x.seal(0, 3, 2, 3, 1);
        x.set(0, 0, -9);
        due(10, "the index counts now", x.reading(0, 0, 4), 7990);
    }

    /** "3 that MENDED" is RIGHT less its mendings; that p is held is said of LEVEL and BETWEEN. */
    private static void readingMendedIsNotHeld() {
        GlassRoom x = new GlassRoom();
        x.set(0, 5, 8000);
        x.seal(0, 12000, 4000, 1, 3999);
        x.station(0, 0, 0, 0);
        x.station(1, 0, 0, 1);
        x.tell(0, 0, 7991, 0);
        x.tell(1, 0, 1, 0);
        due(10, "far above", x.reading(0, 0, 3), 7999 + 191936004000L);
        due(10, "below 0", x.reading(1, 0, 3), -69);
    }

    // ---- 11: rise

    /** "p' less than p, both 1 to 20000", t -30 to 50: the last that are taken. */
    private static void riseAtTheEnds() {
        GlassRoom x = new GlassRoom();
        due(11, "rise(2, 1, 0)", x.rise(2, 1, 0), 400000);
        due(11, "rise(20000, 19999, 0)", x.rise(20000, 19999, 0), 40);
        due(11, "rise(2, 1, -30)", x.rise(2, 1, -30), 356043);
        due(11, "rise(2, 1, 50)", x.rise(2, 1, 50), 473260);
        long sum = 0;
        for (int k = 2; k <= 20000; k++) {
            sum += 800000 / k;
        }
        due(11, "rise(20000, 1, 0)", x.rise(20000, 1, 0), sum);
        due(11, "rise(20000, 1, -30)", x.rise(20000, 1, -30), sum * 2430 / 2730);
        due(11, "rise(20000, 1, 50)", x.rise(20000, 1, 50), sum * 3230 / 2730);
    }

    /** "OUTSIDE: p, p2, t (-30 to 50), p2 not below p": the first that are refused. */
    private static void risePastTheEnds() {
        GlassRoom x = new GlassRoom();
        int[][] past = {{20001, 1, 0}, {20001, 20000, 0}, {1, 0, 0}, {2, 0, 0}, {0, -1, 0}, {1, 1, 0}, {1, 2, 0},
            {7600, 7600, 0}, {7599, 7600, 0}, {20000, 20000, 0}, {20000, 20001, 0}, {2, 1, -31}, {2, 1, 51},
            {Due.MAX, 1, 0}, {2, Due.MIN, 0}, {2, 1, Due.MIN}, {2, 1, Due.MAX}, {Due.MIN, Due.MAX, 0}};
        for (int[] c : past) {
            due(11, "rise(" + c[0] + ", " + c[1] + ", " + c[2] + ")", x.rise(c[0], c[1], c[2]), Due.LOST - 2);
        }
    }

    /** "800000 by each whole number from p' and 1 to p (each cut)": not the sum is cut, and p' itself has no share. */
    private static void riseCutEach() {
        GlassRoom x = new GlassRoom();
        due(11, "rise(3, 2, 0): 266666.67", x.rise(3, 2, 0), 266666);
        due(11, "rise(7, 5, 0): 133333.3 and 114285.7", x.rise(7, 5, 0), 133333 + 114285);
        due(11, "rise(8002, 7999, 0)", x.rise(8002, 7999, 0), 100 + 99 + 99);
        due(11, "rise(101, 99, 0)", x.rise(101, 99, 0), 8000 + 7920);
        due(11, "rise(201, 200, 0)", x.rise(201, 200, 0), 3980);
        due(11, "rise(200, 199, 0)", x.rise(200, 199, 0), 4000);
    }

    /** "that times (2730 and 10 t) by 2730": cut once, behind the sum. */
    private static void riseCutByWarmth() {
        GlassRoom x = new GlassRoom();
        due(11, "100 at -1: 99.6", x.rise(8000, 7999, -1), 99);
        due(11, "100 at 1: 100.4", x.rise(8000, 7999, 1), 100);
        due(11, "100 at 27: 109.9", x.rise(8000, 7999, 27), 109);
        due(11, "100 at 28: 110.3", x.rise(8000, 7999, 28), 110);
        due(11, "99 and 99 at 2: 199.5", x.rise(8002, 8000, 2), 199);
    }

    // ---- 10: LEVEL

    private static long levelOf(int r, int w, int height) {
        GlassRoom x = Due.truthful();
        x.station(0, 0, height, 0);
        x.tell(0, 0, r, w);
        return x.reading(0, 0, 4);
    }

    /** "at height 0 p", at any warmth; a metre off it is no longer p. */
    private static void levelAtHeightNone() {
        for (int w : new int[] {-30, 0, 50}) {
            due(10, "height 0 at " + w, levelOf(7600, w, 0), 7600);
        }
        due(10, "height 1", levelOf(7600, 0, 1), 7601);
        due(10, "height -1", levelOf(7600, 0, -1), 7599);
    }

    /** A station whose p is 7998 and half the air: 24004, 24006 and 24003 come to 20000, 20001 and 19999. */
    private static GlassRoom farUp(int glass, int... seal) {
        GlassRoom x = Due.truthful();
        addFarUp(x, glass, 0, seal);
        return x;
    }

    private static void addFarUp(GlassRoom x, int glass, int height, int... seal) {
        x.set(glass, 5, 8000);
        x.seal(glass, seal[0], seal[1], seal[2], seal[3]);
        int s = x.station(glass, 0, height, glass);
        x.tell(s, 0, 7998, 0);
    }

    private static final int[] TO_19999 = {8002, 6, 1, 2};
    private static final int[] TO_20000 = {6002, 4, 1, 2};
    private static final int[] TO_20001 = {4002, 3, 1, 2};

    /** "(p is held to 1 .. 20000 ahead.)": one within, at and one past both ends; ahead of the height. */
    private static void levelHeldAhead() {
        due(10, "p 19999", farUp(0, TO_19999).reading(0, 0, 4), 19999);
        due(10, "p 20000", farUp(0, TO_20000).reading(0, 0, 4), 20000);
        due(10, "p 20001", farUp(0, TO_20001).reading(0, 0, 4), 20000);
        due(10, "p 20001, not held itself", farUp(0, TO_20001).reading(0, 0, 3), 20001);
        due(10, "p 2", levelOf(9, 0, 0), 2);
        due(10, "p 1", levelOf(8, 0, 0), 1);
        due(10, "p 0", levelOf(7, 0, 0), 1);
        due(10, "p -1", levelOf(6, 0, 0), 1);
        GlassRoom x = Due.truthful();
        addFarUp(x, 0, -1, TO_20000);
        addFarUp(x, 1, -1, 12000, 4000, 1, 3999);
        // 20000 has 40, and so has 19999: with 19998 it is 120.
        due(10, "20000 a metre down", x.reading(0, 0, 4), 19997);
        due(10, "far above, held ahead of it", x.reading(1, 0, 4), 19997);
        // From 1 up: 400000 to 2, 266666 more to 3.
        due(10, "p 0 up 4000 metres", levelOf(7, 0, 4000), 2);
        due(10, "p -1 up 4000 metres", levelOf(6, 0, 4000), 2);
    }

    /** "the least p', p or more, with which RISE .. is 100 times the height or more": just so, and one short. */
    private static void levelJustReachedAbove() {
        due(10, "8000 has 100: just enough", levelOf(7999, 0, 1), 8000);
        due(10, "8001 has 99: one short", levelOf(8000, 0, 1), 8002);
        due(10, "8000 and 8001 have 199: one short", levelOf(7999, 0, 2), 8002);
        due(10, "7999 and 8000 have 200: just enough", levelOf(7998, 0, 2), 8000);
        due(10, "2 has 400000: just enough", levelOf(8, 0, 4000), 2);
        due(10, "2 and 3 are needed", levelOf(8, -1, 4000), 3);
        due(10, "3 has 266666", levelOf(9, 0, 2666), 3);
        due(10, "3 is 34 short", levelOf(9, 0, 2667), 4);
    }

    /** "the greatest p', p or less, with which RISE .. is that or more": just so, and one short. */
    private static void levelJustReachedBelow() {
        due(10, "8000 has 100: just enough", levelOf(8000, 0, -1), 7999);
        due(10, "8001 has 99: one short", levelOf(8001, 0, -1), 7999);
        due(10, "8001 and 8000 have 199: one short", levelOf(8001, 0, -2), 7998);
        due(10, "8000 and 7999 have 200: just enough", levelOf(8000, 0, -2), 7998);
        due(10, "20 has 40000: just enough", levelOf(27, 0, -400), 19);
        due(10, "21 has 38095", levelOf(28, 0, -400), 19);
        due(10, "20 at -1 is short", levelOf(27, -1, -400), 18);
        due(10, "21 at 13: 39909", levelOf(28, 13, -400), 19);
        due(10, "21 at 14: 40049", levelOf(28, 14, -400), 20);
    }

    /** RISE is "at warmth t", cut, ahead of the comparing. */
    private static void levelByWarmth() {
        due(10, "100 at -1: 99", levelOf(7999, -1, 1), 8001);
        due(10, "99 at 2: 99", levelOf(8000, 2, 1), 8002);
        due(10, "99 at 3: 100", levelOf(8000, 3, 1), 8001);
        due(10, "99 at 2: 99, below", levelOf(8001, 2, -1), 7999);
        due(10, "99 at 3: 100, below", levelOf(8001, 3, -1), 8000);
        due(10, "100 at -30: 89", levelOf(7999, -30, 1), 8001);
        due(10, "81 at 50: 95", levelOf(9774, 50, 1), 9778);
    }

    /** The least p there is, at the ends of all else. */
    private static void levelOfTheLeast() {
        due(10, "p 1 up a metre", levelOf(8, 0, 1), 2);
        due(10, "p 1 up a metre at -30", levelOf(8, -30, 1), 2);
        due(10, "p 1 up 4000 metres at -30", levelOf(8, -30, 4000), 3);
        due(10, "p 1 up 4000 metres at 50", levelOf(8, 50, 4000), 2);
    }

    /** The greatest p from which a height is still reached at 20000 or below it, found by adding. */
    private static int lastThatReaches(int height) {
        long sum = 0;
        for (int p = 20000; p > 1; p--) {
            sum += 800000 / p;
            if (sum >= 100L * height) {
                return p - 1;
            }
        }
        return 0;
    }

    /** "(20000, if none is)": the last p with which one is, and the first with which none is. */
    private static void levelNoneAbove() {
        int last = lastThatReaches(4000);
        GlassRoom x = Due.truthful();
        x.set(0, 1, 10);
        x.set(0, 2, 6000);
        x.station(0, 0, 4000, 0);
        // Cup 10: RIGHT goes up by 11 for each 10 of r, so that all but one number in 11 can be had.
        int met = 0;
        for (int r = 11500; r < 11700; r++) {
            x.tell(0, 0, r, 0);
            long p = x.reading(0, 0, 3);
            if (Math.abs(p - last) <= 3) {
                met++;
                due(10, "up 4000 metres from " + p, x.reading(0, 0, 4), plainLevel((int) p, 4000, 0));
            }
        }
        Due.holds(10, "numbers beside the last that reaches", met >= 6);
        due(10, "far past it", farUpBy(4000), 20000);
        due(10, "up a metre from 20000", farUpBy(1), 20000);
        GlassRoom near = Due.truthful();
        addFarUp(near, 0, 1, TO_19999);
        due(10, "up a metre from 19999", near.reading(0, 0, 4), 20000);
    }

    private static long farUpBy(int height) {
        GlassRoom x = Due.truthful();
        addFarUp(x, 0, height, TO_20000);
        return x.reading(0, 0, 4);
    }

    /** "(1, if none is)": from 1 itself none is; from 2 it is reached at 1. */
    private static void levelNoneBelow() {
        due(10, "p 1 down a metre", levelOf(8, 0, -1), 1);
        due(10, "p 1 down 400 metres", levelOf(8, 0, -400), 1);
        due(10, "p 0 down a metre", levelOf(7, 0, -1), 1);
        due(10, "p 2 down a metre", levelOf(9, 0, -1), 1);
        due(10, "p 2 down 400 metres at -30", levelOf(9, -30, -400), 1);
        due(10, "p 3 down 400 metres at -30", levelOf(10, -30, -400), 2);
    }

    /** As the document's words go, step by step. */
    private static long plainLevel(int p, int height, int t) {
        long need = 100L * Math.abs(height);
        long sum = 0;
        if (height == 0) {
            return p;
        }
        for (int q = p; height > 0 && q <= 20000; q++) {
            sum += q > p ? 800000 / q : 0;
            if (sum * (2730 + 10 * t) / 2730 >= need) {
                return q;
            }
        }
        for (int q = p; height < 0 && q >= 1; q--) {
            sum += q < p ? 800000 / (q + 1) : 0;
            if (sum * (2730 + 10 * t) / 2730 >= need) {
                return q;
            }
        }
        return height > 0 ? 20000 : 1;
    }

    private static void levelsOneByOne() {
        for (int height : new int[] {-400, -399, -100, -1, 1, 99, 100, 1000, 3999, 4000}) {
            GlassRoom x = Due.truthful();
            x.station(0, 0, height, 0);
            for (int k = 0; k < 160; k++) {
                int r = k < 60 ? 8 + k : 100 + 117 * (k - 60);
                int t = k * 7 % 81 - 30;
                x.tell(0, 0, r, t);
                long p = x.reading(0, 0, 3);
                due(10, "level of " + p + " at " + t + " from height " + height, x.reading(0, 0, 4),
                    plainLevel((int) Math.max(1, p), height, t));
            }
        }
    }

    // ---- 12: between

    /** "0, if they are alike": also a station and itself, and readings that are unlike but RIGHT alike. */
    private static void betweenAlike() {
        GlassRoom x = Due.map(0, 0, 1, 0);
        x.station(2, 0, 4000, 1);
        x.set(1, 0, 5);
        x.tell(0, 0, 7600, -30);
        x.tell(1, 0, 7600, 50);
        x.tell(2, 0, 7595, 0);
        due(12, "alike, warmths unlike", x.between(0, 1, 0), 0);
        due(12, "alike by index, heights unlike", x.between(0, 2, 0), 0);
        due(12, "and itself", x.between(0, 0, 0), 0);
        x.gap(0, 0);
        due(12, "and itself in a gap", x.between(0, 0, 0), Due.LOST - 6);
    }

    /** "below 0, if p' is more than p": by one tenth, either way. */
    private static void betweenBelowNone() {
        GlassRoom x = Due.map(0, 0, 1, 0);
        Due.tellAll(x, 0, 8000, 7999);
        due(12, "p' one less", x.between(0, 1, 0), 100);
        due(12, "p' one more", x.between(1, 0, 0), -100);
        x.tell(0, 0, 8000, -1);
        x.tell(1, 0, 7999, -1);
        due(12, "99.6, cut", x.between(0, 1, 0), 99);
        due(12, "99.6 below 0, cut", x.between(1, 0, 0), -99);
    }

    /** "RIGHT and MENDED of both (held likewise)": at 1 and at 20000. */
    private static void betweenHeld() {
        GlassRoom x = Due.map(0, 0, 1, 0, 2, 0);
        Due.tellAll(x, 0, 7, 8, 9);
        due(12, "0 and 1", x.between(0, 1, 0), 0);
        due(12, "0 and 2", x.between(0, 2, 0), -400000);
        due(12, "2 and 0", x.between(2, 0, 0), 400000);
        due(12, "2 and 1", x.between(2, 1, 0), 400000);
        x = Due.truthful();
        addFarUp(x, 0, 0, TO_19999);
        addFarUp(x, 1, 0, TO_20000);
        addFarUp(x, 2, 0, TO_20001);
        due(12, "20000 and 20001", x.between(1, 2, 0), 0);
        due(12, "20001 and 19999", x.between(2, 0, 0), 40);
        due(12, "20000 and 19999", x.between(1, 0, 0), 40);
    }

    /** "t both warmths together by 2", cut towards 0. */
    private static void betweenByHalfTheWarmths() {
        int[][] cases = {{-1, 0, 0}, {1, 0, 0}, {-3, 0, -1}, {3, 0, 1}, {-30, -30, -30}, {50, 50, 50}, {-30, 50, 10},
            {-30, -29, -29}, {49, 50, 49}, {5, -6, 0}};
        for (int[] c : cases) {
            GlassRoom x = Due.map(0, 0, 1, 0);
            x.tell(0, 0, 8000, c[0]);
            x.tell(1, 0, 7000, c[1]);
            long sum = 0;
            for (int k = 7001; k <= 8000; k++) {
                sum += 800000 / k;
            }
            long want = sum * (2730 + 10 * c[2]) / 2730;
            due(12, "warmths " + c[0] + " and " + c[1], x.between(0, 1, 0), want);
            due(12, "warmths " + c[0] + " and " + c[1] + " about", x.between(1, 0, 0), -want);
        }
    }

    /** "NONE: a GAP": of the first, of the second, of both. */
    private static void betweenGaps() {
        GlassRoom x = Due.map(0, 0, 1, 0);
        Due.tellAll(x, 0, 7600, 0);
        due(12, "the second has a gap", x.between(0, 1, 0), Due.LOST - 6);
        due(12, "the first has a gap", x.between(1, 0, 0), Due.LOST - 6);
        due(12, "both have a gap", x.between(0, 1, 1), Due.LOST - 6);
        x.tell(1, 47, 7600, 0);
        due(12, "readings in unlike hours", x.between(0, 1, 47), Due.LOST - 6);
        x.tell(0, 47, 7600, 0);
        due(12, "no gap any more", x.between(0, 1, 47), 0);
    }

    private static void betweenRefused() {
        GlassRoom x = Due.map(0, 0, 1, 0);
        Due.tellAll(x, 0, 7600, 7600);
        for (int s : new int[] {-1, 2, 8, Due.MIN, Due.MAX}) {
            due(12, "between(" + s + ", 1, 0)", x.between(s, 1, 0), Due.LOST - 1);
            due(12, "between(0, " + s + ", 0)", x.between(0, s, 0), Due.LOST - 1);
        }
        for (int h : NO_HOUR) {
            due(12, "between(0, 1, " + h + ")", x.between(0, 1, h), Due.LOST - 2);
        }
    }
}
