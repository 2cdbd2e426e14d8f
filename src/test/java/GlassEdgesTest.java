/** Promises 1 to 6: each sentence that names an edge, with a test of its own. */
public final class GlassEdgesTest {
    private static final int[] FIRST = {0, 100, 7600, 5, 2, 8500};
    private static final int[] LEAST = {-50, 10, 6000, 1, 0, 8000};
    private static final int[] MOST = {50, 1000, 8000, 10, 30, 12000};
    private static final int[] NO_GLASS = {-1, 6, Due.MIN, Due.MAX};

    private GlassEdgesTest() { }

    public static void main(String[] args) {
        newGlasses();
        newWithoutStations();
        newWithThreeBenches();
        newWithoutDifferences();
        objectsAreApart();
        setWithinItsRanges();
        setPastItsRanges();
        setAnswersWhichItWas();
        setOneNumberOfOneGlass();
        setUnknown();
        glassOutside();
        sealAtTheEnds();
        sealPastTheEnds();
        sealUnlikeRooms();
        sealNone();
        sealBelowNone();
        sealAnew();
        airInLowestTerms();
        airOutside();
        rightAtTheEnds();
        rightPastTheEnds();
        rightByIndex();
        rightByCupCut();
        rightByBores();
        rightByWarmthCut();
        rightByWarmthJustShort();
        rightOfTheGreatest();
        rightOfTheLeast();
        rightAtTheTube();
        rightByTubeEnds();
        rightByAirCut();
        rightByAirThatIsAFraction();
        rightBelowNoneCutTogether();
        rightByTheMostAir();
        Due.finish();
    }

    private static void due(int promise, String call, long got, long want) {
        Due.due(promise, call, got, want);
    }

    // ---- 1: a new object

    /** "GLASSES as at first", 0 to 5 of them, and "AIR (a fraction; 0)". */
    private static void newGlasses() {
        GlassRoom x = new GlassRoom();
        for (int g = 0; g < 6; g++) {
            for (int what = 0; what < 6; what++) {
                due(1, "glass(" + g + ", " + what + ")", x.glass(g, what), FIRST[what]);
            }
            due(1, "air(" + g + ", 0)", x.air(g, 0), 0);
            due(1, "air(" + g + ", 1)", x.air(g, 1), 1);
        }
    }

    /** "no STATIONS": none is known, none has a reading, none was mended. */
    private static void newWithoutStations() {
        GlassRoom x = new GlassRoom();
        due(1, "told(0)", x.told(0), 0);
        due(1, "told(1)", x.told(1), 0);
        due(1, "told(4)", x.told(4), 0);
        due(1, "tell(0, ..)", x.tell(0, 0, 7600, 0), Due.UNKNOWN);
        due(1, "gap(0, 0)", x.gap(0, 0), Due.UNKNOWN);
        due(1, "reading(0, 0, 0)", x.reading(0, 0, 0), Due.LOST - 1);
        due(1, "between(0, 0, 0)", x.between(0, 0, 0), Due.LOST - 1);
        due(1, "drift(0, 0)", x.drift(0, 0), Due.LOST - 1);
        due(1, "mend(0)", x.mend(0), Due.LOST - 1);
        due(1, "field(0, 0, 0)", x.field(0, 0, 0), Due.LOST - 6);
        due(1, "low(0, -1)", x.low(0, -1), 0);
        due(1, "low(0, 0)", x.low(0, 0), Due.NONE);
        due(1, "follow(0, 0, 0)", x.follow(0, 0, 0), Due.NONE);
        due(1, "lines(0, 7600, 0)", x.lines(0, 7600, 0), Due.STATE);
        due(1, "line(0, 7600, 0, 0)", x.line(0, 7600, 0, 0), Due.STATE);
        due(1, "station(0, 0, 0, 0)", x.station(0, 0, 0, 0), 0);
    }

    /** "3 BENCHES": 0, 1, 2 and no other. */
    private static void newWithThreeBenches() {
        GlassRoom x = new GlassRoom();
        due(1, "told(2)", x.told(2), 3);
        due(1, "height(3, 0)", x.height(3, 0), Due.LOST - 1);
        due(1, "height(2, 0)", x.height(2, 0), Due.LOST - 5);
        due(1, "difference(0, 3, 1, 1)", x.difference(0, 3, 1, 1), Due.UNKNOWN);
        due(1, "difference(1, 2, 1, 1)", x.difference(1, 2, 1, 1), 0);
        due(1, "benches(2)", x.benches(2), 3);
    }

    /** "no DIFFERENCES". */
    private static void newWithoutDifferences() {
        GlassRoom x = new GlassRoom();
        due(1, "told(3)", x.told(3), 0);
        due(1, "off(0, 0)", x.off(0, 0), Due.LOST - 1);
        due(1, "worst()", x.worst(), Due.NONE);
        due(1, "closing(0, 1, 2)", x.closing(0, 1, 2), Due.LOST - 6);
        due(1, "drop()", x.drop(), Due.UNKNOWN);
    }

    private static void objectsAreApart() {
        GlassRoom x = new GlassRoom();
        GlassRoom y = new GlassRoom();
        x.set(0, 1, 55);
        x.seal(0, 2, 2, 1, 1);
        x.station(0, 0, 0, 0);
        x.benches(5);
        x.difference(0, 4, 1, 1);
        due(1, "another's cup", y.glass(0, 1), 100);
        due(1, "another's air", y.air(0, 0), 0);
        due(1, "another's stations", y.told(0), 0);
        due(1, "another's benches", y.told(2), 3);
        due(1, "another's differences", y.told(3), 0);
        due(1, "a later one's cup", new GlassRoom().glass(0, 1), 100);
    }

    // ---- 2, 3: set, glass

    /** "INDEX (-50 to 50), CUP (10 to 1000), NEUTRAL (6000 to 8000), ..": both ends are taken, by all glasses. */
    private static void setWithinItsRanges() {
        GlassRoom x = new GlassRoom();
        for (int g = 0; g < 6; g++) {
            for (int what = 0; what < 6; what++) {
                due(2, "set the least " + what, x.set(g, what, LEAST[what]), FIRST[what]);
                due(3, "glass at the least " + what, x.glass(g, what), LEAST[what]);
                due(2, "set the most " + what, x.set(g, what, MOST[what]), LEAST[what]);
                due(3, "glass at the most " + what, x.glass(g, what), MOST[what]);
            }
        }
    }

    /** "OUTSIDE (-102)": one past either end, and far past it; the number stays. */
    private static void setPastItsRanges() {
        GlassRoom x = new GlassRoom();
        for (int what = 0; what < 6; what++) {
            for (int v : new int[] {LEAST[what] - 1, MOST[what] + 1, Due.MIN, Due.MAX}) {
                due(2, "set(2, " + what + ", " + v + ")", x.set(2, what, v), -102);
                due(3, "glass behind a refusal", x.glass(2, what), FIRST[what]);
            }
        }
        for (int what : new int[] {-1, 6, Due.MIN, Due.MAX}) {
            due(2, "set(0, " + what + ", 5)", x.set(0, what, 5), -102);
        }
    }

    /** "A number of a GLASS: which it was": also if it was the same, below 0, or looks like a refusal. */
    private static void setAnswersWhichItWas() {
        GlassRoom x = new GlassRoom();
        due(2, "set(0, 0, 0), the same", x.set(0, 0, 0), 0);
        for (int v : new int[] {-1, -2, -3, -4, -5, -6}) {
            x.set(0, 0, v);
            due(3, "glass(0, 0) below 0", x.glass(0, 0), v);
            due(2, "set(0, 0, " + v + "), the same", x.set(0, 0, v), v);
        }
    }

    private static void setOneNumberOfOneGlass() {
        GlassRoom x = new GlassRoom();
        x.seal(3, 3, 2, 1, 1);
        for (int what = 0; what < 6; what++) {
            x.set(3, what, MOST[what]);
            for (int other = 0; other < 6; other++) {
                due(2, "number " + other, x.glass(3, other), other <= what ? MOST[other] : FIRST[other]);
                due(2, "number " + other + " of the next", x.glass(4, other), FIRST[other]);
                due(2, "number " + other + " of the last", x.glass(2, other), FIRST[other]);
            }
        }
        due(2, "air stays", x.air(3, 0), 4);
    }

    /** "UNKNOWN (-101)": GLASSES are 0 to 5. */
    private static void setUnknown() {
        GlassRoom x = new GlassRoom();
        for (int g : NO_GLASS) {
            due(2, "set(" + g + ", 0, 0)", x.set(g, 0, 0), -101);
            due(3, "glass(" + g + ", 0)", x.glass(g, 0), -101);
            due(4, "seal(" + g + ", ..)", x.seal(g, 2, 2, 1, 1), Due.UNKNOWN);
            due(5, "air(" + g + ", 0)", x.air(g, 0), Due.LOST - 1);
            due(6, "right(" + g + ", 7600, 0)", x.right(g, 7600, 0), Due.LOST - 1);
        }
    }

    /** "The same": glass is refused as set is. */
    private static void glassOutside() {
        GlassRoom x = new GlassRoom();
        for (int g = 0; g < 6; g++) {
            for (int what : new int[] {-1, 6, Due.MIN, Due.MAX}) {
                due(3, "glass(" + g + ", " + what + ")", x.glass(g, what), -102);
            }
        }
    }

    // ---- 4, 5: seal, air

    private static void sealed(GlassRoom x, int[] by, int answer, long upper, long lower) {
        String call = "seal(0, " + by[0] + ", " + by[1] + ", " + by[2] + ", " + by[3] + ")";
        due(4, call, x.seal(0, by[0], by[1], by[2], by[3]), answer);
        due(5, "upper number behind " + call, x.air(0, 0), upper);
        due(5, "lower number behind " + call, x.air(0, 1), lower);
    }

    /** "r, r' 1 to 12000; s, s' 1 to 4000": the last numbers that are taken. */
    private static void sealAtTheEnds() {
        GlassRoom x = new GlassRoom();
        sealed(x, new int[] {12000, 4000, 1, 3999}, 1, 191936004000L, 1);
        sealed(x, new int[] {1, 3999, 12000, 4000}, 1, 191936004000L, 1);
        sealed(x, new int[] {12000, 4000, 1, 1}, 1, 47996000, 3999);
        sealed(x, new int[] {1, 1, 12000, 4000}, 1, 47996000, 3999);
        sealed(x, new int[] {2, 2, 1, 1}, 1, 2, 1);
        sealed(x, new int[] {1, 1, 2, 2}, 1, 2, 1);
    }

    /** The first numbers that are refused, each alone and at both ends. */
    private static void sealPastTheEnds() {
        GlassRoom x = new GlassRoom();
        x.seal(0, 10, 10, 9, 4);
        int[][] past = {{0, 12001}, {0, 4001}, {0, 12001}, {0, 4001}};
        for (int k = 0; k < 4; k++) {
            for (int v : new int[] {past[k][0], past[k][1], Due.MIN, Due.MAX}) {
                int[] by = {10, 10, 9, 5};
                by[k] = v;
                sealed(x, by, Due.OUTSIDE, 20, 3);
            }
        }
    }

    /** "s, s' .. unlike": also where the readings are alike, or AIR would be below 0. */
    private static void sealUnlikeRooms() {
        GlassRoom x = new GlassRoom();
        x.seal(0, 10, 10, 9, 4);
        sealed(x, new int[] {10, 5, 9, 5}, Due.OUTSIDE, 20, 3);
        sealed(x, new int[] {9, 5, 10, 5}, Due.OUTSIDE, 20, 3);
        sealed(x, new int[] {9, 5, 9, 5}, Due.OUTSIDE, 20, 3);
        sealed(x, new int[] {9, 4000, 9, 4000}, Due.OUTSIDE, 20, 3);
        sealed(x, new int[] {9, 1, 9, 1}, Due.OUTSIDE, 20, 3);
    }

    /** "1 (0: there is none)": then AIR is 0, whatever it was. */
    private static void sealNone() {
        GlassRoom x = new GlassRoom();
        sealed(x, new int[] {77, 3, 77, 4}, 0, 0, 1);
        sealed(x, new int[] {10, 10, 9, 4}, 1, 20, 3);
        sealed(x, new int[] {77, 4, 77, 3}, 0, 0, 1);
        sealed(x, new int[] {10, 10, 9, 4}, 1, 20, 3);
        sealed(x, new int[] {1, 4000, 1, 1}, 0, 0, 1);
        due(6, "right with none", x.right(0, 7600, 0), 7605);
    }

    /** "NO: AIR would be below 0": by a tenth, either way round. */
    private static void sealBelowNone() {
        GlassRoom x = new GlassRoom();
        sealed(x, new int[] {9, 10, 10, 4}, Due.NO, 0, 1);
        sealed(x, new int[] {10, 10, 9, 4}, 1, 20, 3);
        sealed(x, new int[] {7599, 10, 7600, 4}, Due.NO, 20, 3);
        sealed(x, new int[] {7600, 4, 7599, 10}, Due.NO, 20, 3);
        sealed(x, new int[] {1, 4000, 12000, 3999}, Due.NO, 20, 3);
        sealed(x, new int[] {1, 2, 12000, 1}, Due.NO, 20, 3);
    }

    /** "AIR is found": the latest counts, for that GLASS alone. */
    private static void sealAnew() {
        GlassRoom x = new GlassRoom();
        for (int g = 0; g < 6; g++) {
            due(4, "seal(" + g + ", ..)", x.seal(g, 2 + g, 2, 1, 1), 1);
        }
        due(4, "seal(2, ..) anew", x.seal(2, 101, 2, 1, 1), 1);
        for (int g = 0; g < 6; g++) {
            due(5, "air(" + g + ", 0)", x.air(g, 0), g == 2 ? 200 : 2 * (1 + g));
        }
    }

    /** "Fractions are in lowest terms, the lower number above 0." */
    private static void airInLowestTerms() {
        GlassRoom x = new GlassRoom();
        sealed(x, new int[] {10, 10, 9, 4}, 1, 20, 3);
        sealed(x, new int[] {9, 4, 10, 10}, 1, 20, 3);
        sealed(x, new int[] {2, 8, 1, 3}, 1, 24, 5);
        sealed(x, new int[] {3, 9, 1, 3}, 1, 9, 1);
        sealed(x, new int[] {7, 3, 1, 1}, 1, 9, 1);
        sealed(x, new int[] {4, 3, 1, 1}, 1, 9, 2);
        sealed(x, new int[] {1, 1, 4, 3}, 1, 9, 2);
    }

    /** "upper (part = 0), lower number (1)", and no other part. */
    private static void airOutside() {
        GlassRoom x = new GlassRoom();
        for (int part : new int[] {-1, 2, Due.MIN, Due.MAX}) {
            due(5, "air(5, " + part + ")", x.air(5, part), Due.LOST - 2);
        }
    }

    // ---- 6: right

    /** "a READING r (1 to 12000) at warmth w (-30 to 50)": the last numbers that are taken. */
    private static void rightAtTheEnds() {
        GlassRoom x = new GlassRoom();
        due(6, "right(5, 1, -30)", x.right(5, 1, -30), -69);
        due(6, "right(5, 1, 50)", x.right(5, 1, 50), -68);
        due(6, "right(5, 12000, -30)", x.right(5, 12000, -30), 12107);
        due(6, "right(5, 12000, 50)", x.right(5, 12000, 50), 11953);
    }

    /** The first numbers that are refused. */
    private static void rightPastTheEnds() {
        GlassRoom x = new GlassRoom();
        for (int r : new int[] {0, 12001, -1, Due.MIN, Due.MAX}) {
            due(6, "right(0, " + r + ", 0)", x.right(0, r, 0), Due.LOST - 2);
        }
        for (int w : new int[] {-31, 51, Due.MIN, Due.MAX}) {
            due(6, "right(0, 7600, " + w + ")", x.right(0, 7600, w), Due.LOST - 2);
        }
    }

    /** "a is r and INDEX", at both of its ends; the cup's share is of a, not of r. */
    private static void rightByIndex() {
        GlassRoom x = new GlassRoom();
        x.set(0, 0, 50);
        due(6, "index 50, a is NEUTRAL", x.right(0, 7550, 0), 7605);
        due(6, "index 50, a is NEUTRAL and CUP", x.right(0, 7650, 0), 7706);
        x.set(0, 0, -50);
        due(6, "index -50, a is NEUTRAL", x.right(0, 7650, 0), 7605);
        due(6, "index -50, a below 0", x.right(0, 1, 0), -49 - 76 + 5);
    }

    /** "(a less NEUTRAL) by CUP", cut towards 0: one below a whole share, and at it, on both sides. */
    private static void rightByCupCut() {
        GlassRoom x = new GlassRoom();
        x.set(0, 3, 10);
        int[][] cases = {{7600, 7600}, {7601, 7601}, {7599, 7599}, {7699, 7699}, {7700, 7701}, {7799, 7800},
            {7501, 7501}, {7500, 7499}, {7401, 7400}, {7400, 7398}};
        for (int[] c : cases) {
            due(6, "cup 100: right(0, " + c[0] + ", 0)", x.right(0, c[0], 0), c[1]);
        }
        x.set(0, 1, 10);
        due(6, "cup 10", x.right(0, 7609, 0), 7609);
        due(6, "cup 10", x.right(0, 7610, 0), 7611);
        due(6, "cup 10", x.right(0, 7591, 0), 7591);
        due(6, "cup 10", x.right(0, 7590, 0), 7589);
        x.set(0, 1, 1000);
        due(6, "cup 1000", x.right(0, 8599, 0), 8599);
        due(6, "cup 1000", x.right(0, 8600, 0), 8601);
        due(6, "cup 1000", x.right(0, 6601, 0), 6601);
        due(6, "cup 1000", x.right(0, 6600, 0), 6599);
        x.set(0, 2, 6000);
        due(6, "neutral 6000", x.right(0, 6999, 0), 6999);
        due(6, "neutral 6000", x.right(0, 7000, 0), 7001);
        x.set(0, 2, 8000);
        due(6, "neutral 8000", x.right(0, 7001, 0), 7001);
        due(6, "neutral 8000", x.right(0, 7000, 0), 6999);
    }

    /** "DROP by BORES 1 to 10: 40, 20, 12, 8, 5, 3, 2, 1, 1, 0". */
    private static void rightByBores() {
        int[] drops = {40, 20, 12, 8, 5, 3, 2, 1, 1, 0};
        GlassRoom x = new GlassRoom();
        for (int bore = 1; bore <= 10; bore++) {
            x.set(4, 3, bore);
            due(6, "bore " + bore, x.right(4, 7600, 0), 7600 + drops[bore - 1]);
        }
    }

    /** "d is c times .. by ..", cut towards 0, also below 0; with SCALE 18 it is c itself. */
    private static void rightByWarmthCut() {
        GlassRoom x = new GlassRoom();
        due(6, "c is 7605 at 1", x.right(0, 7600, 1), 7603);
        due(6, "c is 7605 at -1", x.right(0, 7600, -1), 7606);
        due(6, "c is -69 at 1", x.right(0, 1, 1), -68);
        due(6, "c is -69 at -1", x.right(0, 1, -1), -69);
        x.set(0, 4, 0);
        due(6, "scale 0 at 50", x.right(0, 7600, 50), 7537);
        due(6, "scale 0 at -30", x.right(0, 7600, -30), 7646);
        x.set(0, 4, 30);
        due(6, "scale 30 at 50", x.right(0, 7600, 50), 7650);
        due(6, "scale 30 at -30", x.right(0, 7600, -30), 7577);
        x.set(0, 4, 18);
        for (int w = -30; w <= 50; w++) {
            due(6, "scale 18 at " + w, x.right(0, 7600, w), 7605);
            due(6, "scale 18 at " + w + ", below 0", x.right(0, 1, w), -69);
        }
    }

    /** Quotients that miss a whole number by little: 100000 and 18 are just these. */
    private static void rightByWarmthJustShort() {
        int[][] cases = {{0, -30, 7545, 7585}, {2, -30, 7659, 7695}, {2, 10, 7514, 7501}, {30, 10, 7500, 7508},
            {0, 50, 7512, 7444}, {2, 50, 7568, 7507}, {30, 50, 7562, 7606}};
        GlassRoom x = Due.truthful();
        for (int[] c : cases) {
            x.set(0, 4, c[0]);
            due(6, "scale " + c[0] + ", right(0, " + c[2] + ", " + c[1] + ")", x.right(0, c[2], c[1]), c[3]);
        }
    }

    /** All numbers at the ends that make it greatest. */
    private static void rightOfTheGreatest() {
        GlassRoom x = new GlassRoom();
        int[] ends = {50, 10, 6000, 1, 30, 12000};
        for (int what = 0; what < 6; what++) {
            x.set(5, what, ends[what]);
        }
        x.seal(5, 12000, 4000, 1, 3999);
        // a 12050, b 12655, c 12695; by 101500, by 100900 it is 12770, above the tube.
        due(6, "the greatest", x.right(5, 12000, 50), 12770);
    }

    /** All numbers at the ends that make it least. */
    private static void rightOfTheLeast() {
        GlassRoom x = new GlassRoom();
        int[] ends = {-50, 10, 8000, 10, 0, 8000};
        for (int what = 0; what < 6; what++) {
            x.set(5, what, ends[what]);
        }
        // a -49, b -853, c -853; by 100000, by 99460 it is -857.6.
        due(6, "the least", x.right(5, 1, -30), -857);
    }

    /** "if TUBE is above d": one below it AIR counts, at it and above it no longer. */
    private static void rightAtTheTube() {
        GlassRoom x = Due.truthful();
        x.seal(0, 51, 2, 1, 1);
        x.set(0, 5, 8000);
        due(6, "two below the tube", x.right(0, 7998, 0), 7998 + 50);
        due(6, "one below the tube", x.right(0, 7999, 0), 7999 + 100);
        due(6, "at the tube", x.right(0, 8000, 0), 8000);
        due(6, "one above the tube", x.right(0, 8001, 0), 8001);
        due(6, "far above the tube", x.right(0, 12000, 0), 12004);
    }

    /** TUBE at both of its ends, and moved while AIR stays. */
    private static void rightByTubeEnds() {
        GlassRoom x = Due.truthful();
        x.seal(0, 4001, 2, 1, 1);
        x.set(0, 5, 8000);
        due(6, "tube 8000", x.right(0, 7999, 0), 15999);
        due(6, "tube 8000", x.right(0, 8000, 0), 8000);
        x.set(0, 5, 12000);
        due(6, "tube 12000", x.right(0, 8000, 0), 8002);
        due(6, "tube 12000, one below it", x.right(0, 11995, 0), 11999 + 8000);
        due(6, "tube 12000, at it", x.right(0, 11996, 0), 12000);
        x.set(0, 5, 8000);
        due(6, "tube 8000 again", x.right(0, 8000, 0), 8000);
    }

    /** "AIR by (TUBE less d)", cut: just below a whole one, and at it. */
    private static void rightByAirCut() {
        GlassRoom x = Due.truthful();
        x.set(0, 5, 8000);
        x.seal(0, 501, 2, 1, 1);
        due(6, "1000 by 1001", x.right(0, 6999, 0), 6999);
        due(6, "1000 by 1000", x.right(0, 7000, 0), 7001);
        due(6, "1000 by 501", x.right(0, 7499, 0), 7500);
        due(6, "1000 by 500", x.right(0, 7500, 0), 7502);
    }

    /** "AIR (a fraction)": it is not cut ahead of the quotient. */
    private static void rightByAirThatIsAFraction() {
        GlassRoom x = Due.truthful();
        x.set(0, 5, 8000);
        x.seal(0, 10, 10, 9, 4);
        due(6, "20 by 3, by 1", x.right(0, 7999, 0), 7999 + 6);
        due(6, "20 by 3, by 6", x.right(0, 7994, 0), 7994 + 1);
        due(6, "20 by 3, by 7", x.right(0, 7993, 0), 7993);
        x.seal(0, 6, 3, 1, 1);
        due(6, "15 by 2, by 7", x.right(0, 7993, 0), 7993 + 1);
        due(6, "15 by 2, by 8", x.right(0, 7992, 0), 7992);
        // Only below 0 a fraction cut ahead would show: 8069 by 8069 is 1, and a third more is just above it.
        x.set(1, 1, 100);
        x.set(1, 3, 5);
        x.set(1, 5, 8000);
        x.seal(1, 6053, 4, 1, 1);
        due(5, "air(1, 1)", x.air(1, 1), 3);
        due(6, "24208 by 3, by 8069, and -69", x.right(1, 1, 0), -67);
    }

    /** "cut together with it": below 0 the sum is cut towards 0, not its parts. */
    private static void rightBelowNoneCutTogether() {
        GlassRoom x = new GlassRoom();
        x.set(0, 5, 8000);
        due(6, "no air", x.right(0, 1, 0), -69);
        x.seal(0, 2, 2, 1, 1);
        due(6, "2 by 8069", x.right(0, 1, 0), -68);
        x.seal(0, 4035, 2, 1, 1);
        due(6, "8068 by 8069", x.right(0, 1, 0), -68);
        x.seal(0, 4036, 2, 1, 1);
        due(6, "8070 by 8069", x.right(0, 1, 0), -67);
        // From below 0 to above it: 69 whole shares are 556761.
        x.seal(0, 69, 4000, 1, 2000);
        due(6, "272000 by 8069", x.right(0, 1, 0), -35);
        x.seal(0, 141, 4000, 1, 2000);
        due(6, "560000 by 8069", x.right(0, 1, 0), 0);
        x.seal(0, 143, 4000, 1, 2000);
        due(6, "568000 by 8069", x.right(0, 1, 0), 1);
    }

    /** The most AIR that two depths can tell, just below the tube. */
    private static void rightByTheMostAir() {
        GlassRoom x = Due.truthful();
        x.set(0, 5, 8000);
        x.seal(0, 12000, 4000, 1, 3999);
        due(6, "the most air by 1", x.right(0, 7999, 0), 7999 + 191936004000L);
        due(6, "the most air by 2", x.right(0, 7998, 0), 7998 + 95968002000L);
        due(6, "the most air by 3", x.right(0, 7997, 0), 7997 + 63978668000L);
    }
}
