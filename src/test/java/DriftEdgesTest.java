/** Promises 25 to 27: each sentence that names an edge, with a test of its own. */
public final class DriftEdgesTest {
    private static final int[] HOURS = {5, 9, 20, 21, 40, 41};
    private static final int[] NO_STATION = {-1, 2, 8, Due.MIN, Due.MAX};

    private DriftEdgesTest() { }

    public static void main(String[] args) {
        driftOutside();
        driftUnknown();
        driftOfTooFewHours();
        driftOfTwoAndTwo();
        driftInHoursOfBoth();
        driftByAnyOtherStation();
        driftByAllOthersCut();
        driftAtTheFirstAndLastHours();
        driftOfAllHours();
        driftTheFirstOfSeveral();
        driftTheGreatestByFractions();
        driftInLowestTerms();
        driftOfTheGreatest();
        driftOfOneAlone();
        driftOfWhatIsMended();
        mendUnknown();
        mendNone();
        mendThreeTimesAtMost();
        mendEachStationThreeTimes();
        mendFullAheadOfNone();
        mendCut();
        mendByNothingCounts();
        mendFromTheHourOn();
        mendForAllSince();
        mendAsRight();
        mendCountsEverywhere();
        mendTwiceFromUnlikeHours();
        mendPastTheEndsIsHeld();
        toldOutside();
        toldAtFirstAndAtMost();
        toldReadings();
        toldMendings();
        toldAsTheLastCall();
        Due.finish();
    }

    private static void due(int promise, String call, long got, long want) {
        Due.due(promise, call, got, want);
    }

    /** Two stations; the first is so much above the second in the hours 5, 9, 20, 21, 40, 41. */
    private static GlassRoom apart(int... excess) {
        GlassRoom x = Due.map(0, 0, 1, 0);
        for (int k = 0; k < excess.length; k++) {
            Due.tellAll(x, HOURS[k], 7600 + excess[k], 7600);
        }
        return x;
    }

    private static void drift(GlassRoom x, int station, long hour, long upper, long lower) {
        due(25, "drift(" + station + ", 0)", x.drift(station, 0), hour);
        due(25, "drift(" + station + ", 1)", x.drift(station, 1), upper);
        due(25, "drift(" + station + ", 2)", x.drift(station, 2), lower);
    }

    private static void noDrift(GlassRoom x, int station) {
        drift(x, station, Due.LOST - 6, Due.LOST - 6, Due.LOST - 6);
        due(26, "mend(" + station + ")", x.mend(station), Due.LOST - 6);
        due(27, "told(4)", x.told(4), 0);
    }

    // ---- 25: drift

    /** "the HOUR h (part = 0) .. upper (1), lower number (2)", and no other part. */
    private static void driftOutside() {
        GlassRoom x = apart(10, 20, 40, 50);
        drift(x, 0, 20, 30, 1);
        for (int part : new int[] {-1, 3, Due.MIN, Due.MAX}) {
            due(25, "drift(0, " + part + ")", x.drift(0, part), Due.LOST - 2);
        }
    }

    private static void driftUnknown() {
        GlassRoom x = apart(10, 20, 40, 50);
        for (int s : NO_STATION) {
            due(25, "drift(" + s + ", 0)", x.drift(s, 0), Due.LOST - 1);
        }
        drift(x, 1, 20, -30, 1);
    }

    /** "NONE: there is no such HOUR": with no hour, and up to three. */
    private static void driftOfTooFewHours() {
        noDrift(apart(), 0);
        noDrift(apart(10), 0);
        noDrift(apart(10, 900), 0);
        noDrift(apart(10, 20, 900), 0);
        noDrift(apart(10, 20, 900), 1);
    }

    /** "two such HOURS at least ahead of an HOUR h, and two from it on (h one of them)". */
    private static void driftOfTwoAndTwo() {
        drift(apart(10, 20, 40, 50), 0, 20, 30, 1);
        // With a fifth hour h may be the third or the fourth one, never the second or the last.
        drift(apart(0, 0, 0, 0, 900), 0, 21, 450, 1);
        drift(apart(900, 0, 0, 0, 0), 0, 20, -450, 1);
        drift(apart(0, 900, 900, 900, 900), 0, 20, 450, 1);
        drift(apart(0, 0, 0, 0, 0, 900), 0, 40, 450, 1);
        drift(apart(0, 0, 0, 900, 900, 900), 0, 21, 900, 1);
    }

    /** "in HOURS with its READING and that of another one": either alone does not count. */
    private static void driftInHoursOfBoth() {
        GlassRoom x = apart(10, 20, 40);
        x.tell(0, 0, 8000, 0);
        x.tell(0, 47, 8000, 0);
        x.tell(1, 1, 8000, 0);
        x.tell(1, 46, 8000, 0);
        noDrift(x, 0);
        noDrift(x, 1);
        Due.tellAll(x, 21, 7650, 7600);
        drift(x, 0, 20, 30, 1);
        x.gap(0, 9);
        noDrift(x, 0);
        x.tell(0, 9, 7620, 0);
        drift(x, 0, 20, 30, 1);
        x.gap(1, 40);
        x.gap(1, 5);
        noDrift(x, 0);
    }

    /** "that of another one": one of many is enough, another one in each hour. */
    private static void driftByAnyOtherStation() {
        GlassRoom x = Due.map(0, 0, 7, 7, 0, 7, 7, 0, 3, 3);
        for (int k = 0; k < 4; k++) {
            x.tell(0, HOURS[k], k < 2 ? 7600 : 7607, 0);
            x.tell(1 + k, HOURS[k], 7600, 0);
        }
        drift(x, 0, 20, 7, 1);
        for (int s = 1; s < 5; s++) {
            due(25, "drift(" + s + ", 0)", x.drift(s, 0), Due.LOST - 6);
        }
    }

    /** "its LEVEL less the FIELD at its point by all other STATIONS": it has no share itself, and FIELD is cut. */
    private static void driftByAllOthersCut() {
        GlassRoom x = apart(10, 20, 40, 50);
        x.station(0, 2, 0, 0);
        x.tell(2, 9, 7600, 0);
        drift(x, 0, 20, 30, 1);
        // 500 for 7600 and 200 for 7610 come to 7602.9, cut: 8 less in the first hour's 10.
        x.tell(2, 5, 7610, 0);
        drift(x, 0, 20, 31, 1);
        // The same in an hour from h on.
        x.tell(2, 21, 7610, 0);
        drift(x, 0, 20, 30, 1);
        x.tell(2, 20, 7607, 0);
        drift(x, 0, 20, 29, 1);
        x.tell(2, 20, 7606, 0);
        drift(x, 0, 20, 59, 2);
    }

    /** HOURS are 0 to 47: both ends count. */
    private static void driftAtTheFirstAndLastHours() {
        GlassRoom x = Due.map(0, 0, 1, 0);
        Due.tellAll(x, 0, 7600, 7600);
        Due.tellAll(x, 1, 7600, 7600);
        Due.tellAll(x, 46, 7603, 7600);
        Due.tellAll(x, 47, 7603, 7600);
        drift(x, 0, 46, 3, 1);
        due(26, "mend(0)", x.mend(0), 3);
        due(10, "hour 1 is ahead", x.reading(0, 1, 3), 7600);
        due(10, "hour 46", x.reading(0, 46, 3), 7600);
        due(10, "hour 47", x.reading(0, 47, 3), 7600);
    }

    /** All 48 hours: h as early and as late as may be, and in the middle. */
    private static void driftOfAllHours() {
        for (int step : new int[] {2, 3, 24, 45, 46}) {
            GlassRoom x = Due.map(0, 0, 1, 0);
            for (int h = 0; h < 48; h++) {
                Due.tellAll(x, h, h < step ? 7600 : 7611, 7600);
            }
            drift(x, 0, step, 11, 1);
            drift(x, 1, step, -11, 1);
        }
        GlassRoom late = Due.map(0, 0, 1, 0);
        GlassRoom early = Due.map(0, 0, 1, 0);
        for (int h = 0; h < 48; h++) {
            Due.tellAll(late, h, h < 47 ? 7600 : 7700, 7600);
            Due.tellAll(early, h, h < 1 ? 7700 : 7600, 7600);
        }
        drift(late, 0, 46, 50, 1);
        drift(early, 0, 2, -50, 1);
    }

    /** "that h for which its size is greatest (the first of several)". */
    private static void driftTheFirstOfSeveral() {
        drift(apart(7, 7, 7, 7, 7, 7), 0, 20, 0, 1);
        drift(apart(0, 0, 3, 6, 6), 0, 20, 5, 1);
        drift(apart(0, 0, -3, -6, -6), 0, 20, -5, 1);
        drift(apart(0, 0, 1, 2, 2), 0, 20, 5, 3);
        // 10 up and 10 down are of one size.
        drift(apart(0, 0, 30, 0, 0), 0, 20, 10, 1);
        drift(apart(0, 0, -30, 0, 0), 0, 20, -10, 1);
    }

    /** Sizes are compared as fractions: by a third or a sixth. */
    private static void driftTheGreatestByFractions() {
        drift(apart(0, 0, 2, 6, 6), 0, 21, 16, 3);
        drift(apart(0, 0, 4, 6, 6), 0, 20, 16, 3);
        drift(apart(0, 0, -2, -6, -6), 0, 21, -16, 3);
        drift(apart(0, 0, 30, 0, -1), 0, 21, -21, 2);
        drift(apart(0, 0, 30, 0, 1), 0, 20, 31, 3);
        drift(apart(0, 0, 3, 6, 7), 0, 21, 11, 2);
        drift(apart(0, 0, 3, 6, 5), 0, 20, 14, 3);
    }

    /** "Fractions are in lowest terms, the lower number above 0." */
    private static void driftInLowestTerms() {
        drift(apart(0, 0, 0, 1), 0, 20, 1, 2);
        drift(apart(0, 0, 0, -1), 0, 20, -1, 2);
        drift(apart(0, 0, 1, 1), 0, 20, 1, 1);
        drift(apart(0, 1, 1, 0), 0, 20, 0, 1);
        drift(apart(0, 0, 0, 2, 2, 2), 0, 21, 2, 1);
        drift(apart(0, 0, 3, 3, 3, 0), 0, 20, 9, 4);
    }

    /** LEVELS of 12004 and of 20000 that change about. */
    private static GlassRoom greatest() {
        GlassRoom x = Due.truthful();
        x.set(0, 5, 8000);
        x.seal(0, 12000, 4000, 1, 3999);
        x.station(0, 0, 0, 0);
        x.station(7, 7, 0, 0);
        for (int k = 0; k < 4; k++) {
            Due.tellAll(x, HOURS[k], k < 2 ? 12000 : 7999, k < 2 ? 7999 : 12000);
        }
        return x;
    }

    private static void driftOfTheGreatest() {
        GlassRoom x = greatest();
        // 12000 is above the tube and comes to 12004; 7999 with all that air to 20000.
        drift(x, 0, 20, 2 * (20000 - 12004), 1);
        drift(x, 1, 20, -2 * (20000 - 12004), 1);
    }

    private static void driftOfOneAlone() {
        GlassRoom x = Due.map(0, 0);
        for (int h = 0; h < 48; h++) {
            x.tell(0, h, h < 24 ? 7600 : 7700, 0);
        }
        noDrift(x, 0);
        x.station(1, 0, 0, 0);
        noDrift(x, 0);
    }

    private static void driftOfWhatIsMended() {
        GlassRoom x = apart(0, 0, 1, 6, 6);
        drift(x, 0, 21, 17, 3);
        due(26, "mend(0)", x.mend(0), 5);
        drift(x, 0, 20, 1, 1);
        drift(x, 1, 20, -1, 1);
        due(26, "mend(1)", x.mend(1), -1);
        drift(x, 0, 20, 0, 1);
    }

    // ---- 26: mend

    private static void mendUnknown() {
        GlassRoom x = apart(0, 0, 9, 9);
        for (int s : NO_STATION) {
            due(26, "mend(" + s + ")", x.mend(s), Due.LOST - 1);
        }
        due(27, "told(4)", x.told(4), 0);
    }

    /** "NONE, likewise": it is no mending. */
    private static void mendNone() {
        GlassRoom x = apart(0, 0, 9);
        for (int k = 0; k < 4; k++) {
            due(26, "mend(0)", x.mend(0), Due.LOST - 6);
        }
        due(27, "told(4)", x.told(4), 0);
        due(10, "nothing is mended", x.reading(0, 20, 3), 7609);
        Due.tellAll(x, 21, 7609, 7600);
        for (int k = 0; k < 3; k++) {
            due(26, "three are left", x.mend(0), k == 0 ? 9 : 0);
        }
    }

    /** "3 times at most for a STATION": three, and one more. */
    private static void mendThreeTimesAtMost() {
        GlassRoom x = apart(0, 0, 9, 9);
        int[] by = {9, 0, 0};
        for (int k = 0; k < 3; k++) {
            due(26, "mend(0), time " + (k + 1), x.mend(0), by[k]);
            due(27, "told(4)", x.told(4), k + 1);
        }
        Due.tellAll(x, 20, 7700, 7600);
        Due.tellAll(x, 21, 7700, 7600);
        drift(x, 0, 20, 91, 1);
        due(26, "mend(0), time 4", x.mend(0), Due.LOST - 4);
        due(10, "it is less by 9 as before", x.reading(0, 20, 3), 7691);
        due(27, "told(4)", x.told(4), 3);
        drift(x, 0, 20, 91, 1);
        due(26, "mend(1) is free", x.mend(1), -91);
    }

    private static void mendEachStationThreeTimes() {
        GlassRoom x = Due.map(0, 0, 1, 0, 2, 0, 3, 0, 4, 0, 5, 0, 6, 0, 7, 0);
        for (int k = 0; k < 4; k++) {
            for (int s = 0; s < 8; s++) {
                x.tell(s, HOURS[k], 7600, 0);
            }
        }
        for (int n = 0; n < 24; n++) {
            due(27, "told(4)", x.told(4), n);
            due(26, "mend(" + n % 8 + ")", x.mend(n % 8), 0);
        }
        for (int s = 0; s < 8; s++) {
            due(26, "mend(" + s + "), full", x.mend(s), Due.LOST - 4);
        }
        due(27, "told(4)", x.told(4), 24);
    }

    /** Refusals come first: what is full is told, though there is no such hour either. */
    private static void mendFullAheadOfNone() {
        GlassRoom x = apart(0, 0, 9, 9);
        for (int k = 0; k < 3; k++) {
            x.mend(0);
        }
        x.gap(0, 5);
        due(25, "drift(0, 0)", x.drift(0, 0), Due.LOST - 6);
        due(26, "mend(0)", x.mend(0), Due.LOST - 4);
        due(26, "mend(1)", x.mend(1), Due.LOST - 6);
    }

    /** "less by that, cut": towards 0 on both sides, and only the mending, not what drift tells. */
    private static void mendCut() {
        due(26, "17 by 3", apart(0, 0, 1, 6, 6).mend(0), 5);
        due(26, "-17 by 3", apart(0, 0, -1, -6, -6).mend(0), -5);
        due(26, "1 by 2", apart(0, 0, 0, 1).mend(0), 0);
        due(26, "-1 by 2", apart(0, 0, 0, -1).mend(0), 0);
        due(26, "3 by 2", apart(0, 0, 1, 2).mend(0), 1);
        due(26, "-3 by 2", apart(0, 0, -1, -2).mend(0), -1);
        due(26, "1", apart(0, 0, 1, 1).mend(0), 1);
        due(26, "-1", apart(0, 0, -1, -1).mend(0), -1);
        GlassRoom x = apart(0, 0, -1, -2);
        x.mend(0);
        due(10, "less by -1 is more", x.reading(0, 20, 3), 7600);
        due(10, "less by -1 is more", x.reading(0, 21, 3), 7599);
        drift(x, 0, 20, -1, 2);
    }

    private static void mendByNothingCounts() {
        GlassRoom x = apart(0, 0, 0, 0);
        due(26, "mend(0)", x.mend(0), 0);
        due(27, "told(4)", x.told(4), 1);
        due(26, "mend(0)", x.mend(0), 0);
        due(26, "mend(0)", x.mend(0), 0);
        due(26, "mend(0)", x.mend(0), Due.LOST - 4);
    }

    /** "all its READINGS from h on": at h, and none ahead of it, though it is the very hour before. */
    private static void mendFromTheHourOn() {
        GlassRoom x = apart(0, 0, 9, 9);
        x.tell(0, 19, 7600, 0);
        x.tell(0, 47, 7600, 0);
        x.tell(0, 0, 7600, 0);
        due(26, "mend(0)", x.mend(0), 9);
        due(10, "hour 0", x.reading(0, 0, 3), 7600);
        due(10, "hour 19", x.reading(0, 19, 3), 7600);
        due(10, "hour 20", x.reading(0, 20, 3), 7600);
        due(10, "hour 21", x.reading(0, 21, 3), 7600);
        due(10, "hour 47", x.reading(0, 47, 3), 7591);
        due(10, "another station's", x.reading(1, 20, 3), 7600);
    }

    /** "mended for all since": also what is told later, or again, or behind a gap. */
    private static void mendForAllSince() {
        GlassRoom x = apart(0, 0, 9, 9);
        x.mend(0);
        x.tell(0, 30, 7700, 0);
        due(10, "told later", x.reading(0, 30, 3), 7691);
        x.tell(0, 20, 7700, 0);
        due(10, "told again", x.reading(0, 20, 3), 7691);
        x.gap(0, 21);
        x.tell(0, 21, 7700, 0);
        due(10, "told behind a gap", x.reading(0, 21, 3), 7691);
        x.tell(0, 19, 7700, 0);
        due(10, "told later, ahead of h", x.reading(0, 19, 3), 7700);
        for (int h : HOURS) {
            x.gap(0, h);
        }
        due(27, "gaps take no mending away", x.told(4), 1);
    }

    /** "(as RIGHT)": what is RIGHT is less by it; the READING, its warmth and RIGHT itself stay. */
    private static void mendAsRight() {
        GlassRoom x = apart(0, 0, 9, 9);
        x.mend(0);
        due(10, "the reading", x.reading(0, 20, 0), 7609);
        due(10, "its warmth", x.reading(0, 20, 1), 0);
        due(10, "right", x.reading(0, 20, 2), 7609);
        due(10, "mended", x.reading(0, 20, 3), 7600);
        due(6, "right(0, 7609, 0)", x.right(0, 7609, 0), 7609);
        x.set(0, 0, 50);
        due(10, "mended by as much with another index", x.reading(0, 20, 3), 7650);
    }

    /** "once it is done, MENDED counts everywhere". */
    private static void mendCountsEverywhere() {
        GlassRoom x = Due.map(0, 0, 7, 7);
        for (int k = 0; k < 4; k++) {
            Due.tellAll(x, HOURS[k], k < 2 ? 7600 : 7700, 7600);
        }
        x.station(3, 3, 1, 0);
        due(20, "field ahead of it", x.field(20, 0, 0), 7699);
        due(21, "low ahead of it", x.low(20, 0), 63);
        due(23, "lines ahead of it", x.lines(20, 7650, 0), 1);
        due(26, "mend(0)", x.mend(0), 100);
        due(10, "level", x.reading(0, 20, 4), 7600);
        due(12, "between", x.between(0, 1, 20), 0);
        due(20, "field", x.field(20, 0, 0), 7600);
        due(21, "low", x.low(20, 0), 0);
        due(22, "follow", x.follow(20, 0, 1), 0);
        due(23, "lines", x.lines(20, 7650, 0), 0);
        due(24, "line", x.line(20, 7650, 0, 0), Due.UNKNOWN);
        due(25, "drift", x.drift(0, 1), 0);
        due(25, "drift of its neighbour", x.drift(1, 1), 0);
    }

    private static void mendTwiceFromUnlikeHours() {
        GlassRoom x = apart(0, 0, 20, 20, 50, 50);
        // From 40 on 50 less 10 is 40; from 20 on 35 is less. Then 0, 0, 20, 20, 10, 10.
        due(26, "mend(0) from 40 on", x.mend(0), 40);
        due(26, "mend(0) from 20 on", x.mend(0), 15);
        int[] left = {7600, 7600, 7605, 7605, 7595, 7595};
        for (int k = 0; k < 6; k++) {
            due(10, "hour " + HOURS[k], x.reading(0, HOURS[k], 3), left[k]);
        }
        // Then 5 and 5, -5 and -5: from 40 on -5 less 2.5.
        drift(x, 0, 40, -15, 2);
        due(26, "mend(0) from 40 on again", x.mend(0), -7);
        due(10, "all three count", x.reading(0, 40, 3), 7602);
        due(10, "one counts", x.reading(0, 20, 3), 7605);
    }

    /** p is held behind the mending: far above 20000 it stays there, and 1 is the least there is. */
    private static void mendPastTheEndsIsHeld() {
        GlassRoom x = greatest();
        due(26, "mend(0)", x.mend(0), 15992);
        due(10, "mended", x.reading(0, 20, 3), 7999 + 191936004000L - 15992);
        due(10, "level", x.reading(0, 20, 4), 20000);
        due(26, "mend(0) again", x.mend(0), 15992);
        GlassRoom low = apart(900, 900, 0, 0);
        low.tell(0, 30, 1, 0);
        low.tell(1, 30, 7600, 0);
        low.tell(0, 31, 1, 0);
        low.tell(1, 31, 7600, 0);
        // 900, 900, 0, 0, -7599, -7599 by levels held to 1: from 30 on -7599 less 450.
        drift(low, 0, 30, -8049, 1);
        due(26, "mend(0)", low.mend(0), -8049);
        due(10, "mended", low.reading(0, 30, 3), 1 - 7 + 8049);
        due(10, "level", low.reading(0, 30, 4), 8043);
        GlassRoom down = apart(0, 0, 900, 900);
        down.mend(0);
        down.tell(0, 30, 700, 0);
        due(10, "below 0", down.reading(0, 30, 3), 700 - 6 - 900);
        due(10, "held to 1", down.reading(0, 30, 4), 1);
    }

    // ---- 27: told

    private static void told(GlassRoom x, int... want) {
        for (int what = 0; what < 5; what++) {
            due(27, "told(" + what + ")", x.told(what), want[what]);
        }
    }

    private static void toldOutside() {
        GlassRoom x = apart(0, 0, 9, 9);
        for (int what : new int[] {-1, 5, Due.MIN, Due.MAX}) {
            due(27, "told(" + what + ")", x.told(what), Due.OUTSIDE);
        }
    }

    /** Nothing yet; and all that there may be at most. */
    private static void toldAtFirstAndAtMost() {
        GlassRoom x = new GlassRoom();
        told(x, 0, 0, 3, 0, 0);
        x.benches(6);
        for (int k = 0; k < 13; k++) {
            x.difference(0, 1 + k % 5, k, 1);
        }
        for (int s = 0; s < 8; s++) {
            x.station(s, s, 0, 0);
            for (int h = 0; h < 48; h++) {
                x.tell(s, h, 7600, 0);
            }
        }
        told(x, 8, 384, 6, 12, 0);
        for (int n = 0; n < 32; n++) {
            x.mend(n % 8);
        }
        told(x, 8, 384, 6, 12, 24);
    }

    /** "1 READINGS": one told again is one, a gap takes one away, a refused one is none. */
    private static void toldReadings() {
        GlassRoom x = Due.map(0, 0, 1, 1);
        due(27, "none", x.told(1), 0);
        x.tell(0, 0, 7600, 0);
        x.tell(1, 0, 7600, 0);
        due(27, "two", x.told(1), 2);
        x.tell(1, 0, 7700, 0);
        x.tell(2, 0, 7700, 0);
        x.tell(1, 48, 7700, 0);
        due(27, "still two", x.told(1), 2);
        x.gap(1, 0);
        x.gap(1, 0);
        due(27, "one", x.told(1), 1);
        x.gap(0, 0);
        due(27, "none again", x.told(1), 0);
    }

    /** "4 MENDINGS of all STATIONS": refused ones and those without an hour are none. */
    private static void toldMendings() {
        GlassRoom x = apart(0, 0, 9, 9);
        x.mend(2);
        x.mend(-1);
        due(27, "none", x.told(4), 0);
        x.mend(0);
        x.mend(1);
        x.mend(0);
        due(27, "three of two stations", x.told(4), 3);
    }

    /** "An object is used for at most 512 calls": the last of them is answered as the first. */
    private static void toldAsTheLastCall() {
        GlassRoom x = new GlassRoom();
        x.station(0, 0, 0, 0);
        for (int k = 1; k < 511; k++) {
            x.tell(0, k % 48, 7000 + k, 0);
        }
        due(27, "call 512", x.told(1), 48);
    }
}
