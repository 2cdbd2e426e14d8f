/** Each promise of the document by hand: ordinary inputs, the edges it names, wrong inputs, the order of refusals. */
public final class PromisesTest {
    private static final long LOST = -1000000000000000000L;
    private static final int[] LEAST = {-50, 10, 6000, 1, 0, 8000};
    private static final int[] MOST = {50, 1000, 8000, 10, 30, 12000};
    private static final int[] FIRST = {0, 100, 7600, 5, 2, 8500};
    private static int wrong = 0;

    private static void due(int promise, String call, long got, long want) {
        if (got != want) {
            wrong++;
            System.out.println("promise " + promise + ": " + call + " answered " + got + ", due is " + want);
        }
    }

    public static void main(String[] args) {
        newObject();
        glassNumbers();
        airByTwoDepths();
        rightByIndexCupAndBore();
        rightByWarmth();
        rightByAir();
        makingStations();
        tellingReadings();
        readingsAndLevels();
        levelsAtTheEnds();
        levelsJustReached();
        rises();
        risesOneByOne();
        betweenStations();
        benchesAnew();
        differencesAndDrops();
        heightsAndOffs();
        heightsOfManyBenches();
        worstOnes();
        closings();
        fields();
        lows();
        followedLows();
        linesThroughSaddles();
        linesRoundAndOpen();
        lineRefusals();
        drifts();
        driftEdges();
        mendings();
        counts();
        refusalsChangeNothing();
        System.out.println(wrong == 0 ? "all answers are as due" : wrong + " answers are not as due");
        if (wrong != 0) {
            System.exit(1);
        }
    }

    // ---- 1 glasses

    private static void newObject() {
        GlassRoom x = new GlassRoom();
        for (int g = 0; g < 6; g++) {
            for (int what = 0; what < 6; what++) {
                due(1, "glass(" + g + ", " + what + ")", x.glass(g, what), FIRST[what]);
            }
            due(1, "air(g, 0)", x.air(g, 0), 0);
            due(1, "air(g, 1)", x.air(g, 1), 1);
        }
        int[] told = {0, 0, 3, 0, 0};
        for (int what = 0; what < 5; what++) {
            due(1, "told(" + what + ")", x.told(what), told[what]);
        }
        due(1, "gap(0, 0)", x.gap(0, 0), -1);
        due(1, "drop()", x.drop(), -1);
    }

    private static void glassNumbers() {
        GlassRoom x = new GlassRoom();
        for (int what = 0; what < 6; what++) {
            due(2, "set below the least " + what, x.set(3, what, LEAST[what] - 1), -102);
            due(2, "set above the most " + what, x.set(3, what, MOST[what] + 1), -102);
            due(3, "glass after a refusal", x.glass(3, what), FIRST[what]);
            due(2, "set the least " + what, x.set(3, what, LEAST[what]), FIRST[what]);
            due(3, "glass at the least", x.glass(3, what), LEAST[what]);
            due(2, "set the most " + what, x.set(3, what, MOST[what]), LEAST[what]);
            due(3, "glass at the most", x.glass(3, what), MOST[what]);
            due(3, "another glass", x.glass(2, what), FIRST[what]);
        }
        due(2, "set(-1, 0, 0)", x.set(-1, 0, 0), -101);
        due(2, "set(6, 0, 0)", x.set(6, 0, 0), -101);
        due(2, "set(6, 9, 0)", x.set(6, 9, 0), -101);
        due(2, "set(0, -1, 0)", x.set(0, -1, 0), -102);
        due(2, "set(0, 6, 0)", x.set(0, 6, 0), -102);
        due(2, "set(0, MAX, MIN)", x.set(0, Integer.MAX_VALUE, Integer.MIN_VALUE), -102);
        due(3, "glass(-1, 0)", x.glass(-1, 0), -101);
        due(3, "glass(6, 6)", x.glass(6, 6), -101);
        due(3, "glass(0, -1)", x.glass(0, -1), -102);
        due(3, "glass(5, 6)", x.glass(5, 6), -102);
    }

    private static void airByTwoDepths() {
        GlassRoom x = new GlassRoom();
        due(4, "seal(5, 10, 10, 9, 4)", x.seal(5, 10, 10, 9, 4), 1);
        due(5, "air(5, 0), lowest terms", x.air(5, 0), 20);
        due(5, "air(5, 1), lowest terms", x.air(5, 1), 3);
        due(4, "seal below 0", x.seal(5, 9, 10, 10, 4), -5);
        due(4, "seal below 0, depths the other way", x.seal(5, 10, 4, 9, 10), -5);
        due(5, "air stays", x.air(5, 0), 20);
        due(4, "seal the other way", x.seal(4, 9, 4, 10, 10), 1);
        due(5, "air, lower number above 0", x.air(4, 1), 3);
        due(5, "air, upper number", x.air(4, 0), 20);
        due(4, "seal none", x.seal(5, 77, 3, 77, 4), 0);
        due(5, "air none, upper", x.air(5, 0), 0);
        due(5, "air none, lower", x.air(5, 1), 1);
        due(4, "seal at the ends", x.seal(0, 12000, 4000, 1, 3999), 1);
        due(5, "air at the ends", x.air(0, 0), 191936004000L);
        due(4, "seal at the other ends", x.seal(0, 2, 2, 1, 1), 1);
        due(5, "air at the other ends", x.air(0, 0), 2);
        int[][] outside = {{0, 2, 1, 1}, {12001, 2, 1, 1}, {2, 0, 1, 1}, {2, 4001, 1, 1}, {2, 2, 0, 1},
            {2, 2, 12001, 1}, {2, 2, 1, 0}, {2, 2, 1, 4001}, {2, 2, 1, 2}};
        for (int[] o : outside) {
            due(4, "seal outside", x.seal(0, o[0], o[1], o[2], o[3]), -2);
        }
        due(4, "seal(-1, ..)", x.seal(-1, 2, 2, 1, 1), -1);
        due(4, "seal(6, 0, ..)", x.seal(6, 0, 0, 0, 0), -1);
        due(5, "air stays", x.air(0, 0), 2);
        due(5, "air(0, -1)", x.air(0, -1), LOST - 2);
        due(5, "air(0, 2)", x.air(0, 2), LOST - 2);
        due(5, "air(-1, 0)", x.air(-1, 0), LOST - 1);
        due(5, "air(6, 7)", x.air(6, 7), LOST - 1);
    }

    private static void rightByIndexCupAndBore() {
        GlassRoom x = new GlassRoom();
        due(6, "right(0, 7700, 0)", x.right(0, 7700, 0), 7706);
        due(6, "right(0, 7699, 0), the cup's share cut", x.right(0, 7699, 0), 7704);
        due(6, "right(0, 7501, 0), cut towards 0", x.right(0, 7501, 0), 7506);
        due(6, "right(0, 7500, 0)", x.right(0, 7500, 0), 7504);
        int[] drops = {40, 20, 12, 8, 5, 3, 2, 1, 1, 0};
        for (int bore = 1; bore <= 10; bore++) {
            x.set(1, 3, bore);
            due(6, "right with bore " + bore, x.right(1, 7600, 0), 7600 + drops[bore - 1]);
        }
        x.set(2, 0, -50);
        due(6, "right with index -50", x.right(2, 7650, 0), 7605);
        x.set(2, 0, 50);
        due(6, "right with index 50", x.right(2, 7550, 0), 7605);
        x.set(2, 1, 10);
        due(6, "right with cup 10, index ahead of it", x.right(2, 7600, 0), 7660);
        x.set(2, 2, 6000);
        due(6, "right with neutral 6000", x.right(2, 7600, 0), 7820);
        due(6, "right(0, 0, 0)", x.right(0, 0, 0), LOST - 2);
        due(6, "right(0, 12001, 0)", x.right(0, 12001, 0), LOST - 2);
        due(6, "right(0, 7600, -31)", x.right(0, 7600, -31), LOST - 2);
        due(6, "right(0, 7600, 51)", x.right(0, 7600, 51), LOST - 2);
        due(6, "right(-1, 7600, 0)", x.right(-1, 7600, 0), LOST - 1);
        due(6, "right(6, 0, 99)", x.right(6, 0, 99), LOST - 1);
    }

    private static void rightByWarmth() {
        GlassRoom x = new GlassRoom();
        x.set(0, 4, 0);
        due(6, "right at 50, scale 0", x.right(0, 7600, 50), 7537);
        due(6, "right at -30, scale 0", x.right(0, 7600, -30), 7646);
        x.set(0, 4, 18);
        for (int w = -30; w <= 50; w++) {
            due(6, "right at " + w + ", scale as quicksilver", x.right(0, 7600, w), 7605);
        }
        x.set(0, 4, 30);
        due(6, "right at 50, scale 30", x.right(0, 7600, 50), 7650);
    }

    private static void rightByAir() {
        GlassRoom x = new GlassRoom();
        x.set(0, 5, 8000);
        x.seal(0, 396, 2, 1, 1);
        due(5, "air(0, 0)", x.air(0, 0), 790);
        due(6, "right by air", x.right(0, 7600, 0), 7607);
        due(6, "right, one below the tube", x.right(0, 7991, 0), 7999 + 790);
        due(6, "right at the tube", x.right(0, 7992, 0), 8000);
        due(6, "right above the tube", x.right(0, 7993, 0), 8001);
        due(6, "right below 0, cut together", x.right(0, 1, 0), -68);
        due(6, "another glass has no air", x.right(1, 1, 0), -69);
        x.seal(1, 10, 10, 9, 4);
        x.set(1, 5, 8000);
        due(6, "right by air of 20 by 3", x.right(1, 7991, 0), 7999 + 6);
    }

    // ---- 2 stations

    private static void makingStations() {
        GlassRoom x = new GlassRoom();
        due(7, "station(-1, 0, 0, 0)", x.station(-1, 0, 0, 0), -2);
        due(7, "station(8, 0, 0, 0)", x.station(8, 0, 0, 0), -2);
        due(7, "station(0, -1, 0, 0)", x.station(0, -1, 0, 0), -2);
        due(7, "station(0, 8, 0, 0)", x.station(0, 8, 0, 0), -2);
        due(7, "station(0, 0, -401, 0)", x.station(0, 0, -401, 0), -2);
        due(7, "station(0, 0, 4001, 0)", x.station(0, 0, 4001, 0), -2);
        due(7, "station(0, 0, 0, -1)", x.station(0, 0, 0, -1), -1);
        due(7, "station(9, 9, 9999, 6)", x.station(9, 9, 9999, 6), -1);
        due(7, "station(0, 0, -400, 0)", x.station(0, 0, -400, 0), 0);
        due(7, "station(7, 7, 4000, 5)", x.station(7, 7, 4000, 5), 1);
        due(7, "station(0, 0, 1, 1)", x.station(0, 0, 1, 1), -5);
        due(27, "told(0)", x.told(0), 2);
        for (int k = 2; k < 8; k++) {
            due(7, "station(" + k + ", 0, 0, 0)", x.station(k, 0, 0, 0), k);
        }
        due(7, "station, full ahead of taken", x.station(0, 0, 0, 0), -4);
        due(7, "station, full", x.station(4, 4, 0, 0), -4);
        due(7, "station, outside ahead of full", x.station(8, 4, 0, 0), -2);
        due(7, "station, unknown ahead of full", x.station(4, 4, 0, 6), -1);
        due(27, "told(0)", x.told(0), 8);
    }

    private static void tellingReadings() {
        GlassRoom x = new GlassRoom();
        due(8, "tell, no station", x.tell(0, 0, 7600, 0), -1);
        x.station(0, 0, 0, 0);
        due(8, "tell(0, 0, 1, -30)", x.tell(0, 0, 1, -30), 1);
        due(8, "tell(0, 47, 12000, 50)", x.tell(0, 47, 12000, 50), 1);
        due(8, "tell again", x.tell(0, 47, 11999, 49), 2);
        int[][] outside = {{-1, 7600, 0}, {48, 7600, 0}, {0, 0, 0}, {0, 12001, 0}, {0, 7600, -31}, {0, 7600, 51}};
        for (int[] o : outside) {
            due(8, "tell outside", x.tell(0, o[0], o[1], o[2]), -2);
        }
        due(8, "tell(1, 48, 0, 99)", x.tell(1, 48, 0, 99), -1);
        due(8, "tell(-1, 0, 1, 1)", x.tell(-1, 0, 1, 1), -1);
        due(10, "reading(0, 0, 0)", x.reading(0, 0, 0), 1);
        due(10, "reading(0, 0, 1)", x.reading(0, 0, 1), -30);
        due(10, "reading(0, 47, 0), the later", x.reading(0, 47, 0), 11999);
        due(10, "reading(0, 47, 1), the later", x.reading(0, 47, 1), 49);
        due(27, "told(1)", x.told(1), 2);
        due(9, "gap(0, 1), it was", x.gap(0, 1), 0);
        due(9, "gap(0, 47)", x.gap(0, 47), 1);
        due(9, "gap(0, 47), it is", x.gap(0, 47), 0);
        due(9, "gap(0, -1)", x.gap(0, -1), -2);
        due(9, "gap(0, 48)", x.gap(0, 48), -2);
        due(9, "gap(1, 48)", x.gap(1, 48), -1);
        due(9, "gap(-1, 0)", x.gap(-1, 0), -1);
        due(10, "reading in a gap", x.reading(0, 47, 0), LOST - 6);
        due(8, "tell after a gap", x.tell(0, 47, 5, 5), 1);
        due(27, "told(1)", x.told(1), 2);
    }

    private static void readingsAndLevels() {
        GlassRoom x = new GlassRoom();
        x.station(0, 0, 0, 0);
        x.station(1, 0, 4000, 0);
        x.station(2, 0, -400, 0);
        x.tell(0, 3, 7700, 0);
        due(10, "right", x.reading(0, 3, 2), 7706);
        due(10, "mended", x.reading(0, 3, 3), 7706);
        due(10, "level at height 0", x.reading(0, 3, 4), 7706);
        x.set(0, 0, 10);
        due(10, "right by the glass as it is now", x.reading(0, 3, 2), 7716);
        due(10, "level by the glass as it is now", x.reading(0, 3, 4), 7716);
        due(10, "the reading itself stays", x.reading(0, 3, 0), 7700);
        x.set(0, 0, 0);
        // From 2 to 1 the air rises 400000 centimetres at 0 degrees: just the height.
        x.tell(1, 0, 1, 0);
        due(10, "right below 1", x.reading(1, 0, 2), -69);
        due(10, "level from 1 up, just enough", x.reading(1, 0, 4), 2);
        x.tell(1, 0, 1, -1);
        due(10, "level from 1 up, a little colder", x.reading(1, 0, 4), 3);
        x.tell(2, 0, 72, 0);
        due(10, "right", x.reading(2, 0, 2), 2);
        due(10, "level from 2 down", x.reading(2, 0, 4), 1);
        due(10, "reading(0, 3, -1)", x.reading(0, 3, -1), LOST - 2);
        due(10, "reading(0, 3, 5)", x.reading(0, 3, 5), LOST - 2);
        due(10, "reading(0, -1, 0)", x.reading(0, -1, 0), LOST - 2);
        due(10, "reading(0, 48, 0)", x.reading(0, 48, 0), LOST - 2);
        due(10, "reading, outside ahead of none", x.reading(0, 4, 5), LOST - 2);
        for (int what = 0; what < 5; what++) {
            due(10, "reading in a gap", x.reading(0, 4, what), LOST - 6);
        }
        due(10, "reading(3, 99, 9)", x.reading(3, 99, 9), LOST - 1);
        due(10, "reading(-1, 0, 0)", x.reading(-1, 0, 0), LOST - 1);
    }

    private static void levelsAtTheEnds() {
        GlassRoom x = new GlassRoom();
        x.set(0, 5, 8000);
        x.seal(0, 12000, 4000, 1, 3999);
        x.station(0, 0, 0, 0);
        x.station(1, 0, 4000, 0);
        x.station(2, 0, 4000, 1);
        x.station(3, 0, -400, 1);
        x.station(4, 0, 0, 1);
        x.tell(0, 0, 7991, 0);
        due(10, "right far above", x.reading(0, 0, 2), 7999 + 191936004000L);
        due(10, "mended is not held", x.reading(0, 0, 3), 7999 + 191936004000L);
        due(10, "level is held", x.reading(0, 0, 4), 20000);
        x.tell(1, 0, 7991, 0);
        due(10, "level above 20000", x.reading(1, 0, 4), 20000);
        x.set(1, 1, 10);
        x.set(1, 2, 6000);
        x.tell(2, 0, 12000, -30);
        due(10, "level, none is enough", x.reading(2, 0, 4), 20000);
        x.tell(2, 1, 11000, 0);
        long p = x.reading(2, 1, 3);
        long level = x.reading(2, 1, 4);
        due(10, "the least that is enough is enough", x.rise((int) level, (int) p, 0) >= 400000 ? 1 : 0, 1);
        due(10, "one less is not", x.rise((int) level - 1, (int) p, 0) < 400000 ? 1 : 0, 1);
        x.tell(3, 0, 1, 0);
        due(10, "level below 1", x.reading(3, 0, 4), 1);
        x.tell(3, 1, 9000, 0);
        p = x.reading(3, 1, 3);
        level = x.reading(3, 1, 4);
        due(10, "the greatest that is enough is enough", x.rise((int) p, (int) level, 0) >= 40000 ? 1 : 0, 1);
        due(10, "one more is not", x.rise((int) p, (int) level + 1, 0) < 40000 ? 1 : 0, 1);
        x.tell(4, 0, 1, 0);
        due(10, "level at height 0 is held to 1", x.reading(4, 0, 4), 1);
    }

    /** Heights at which the sum of shares comes to just what is needed, or misses it by one. */
    private static void levelsJustReached() {
        int[][] cases = {{6603, 578, 7100}, {6604, 798, 7300}, {6690, -353, 6399}, {6721, -25, 6699}};
        GlassRoom x = map();
        for (int k = 0; k < cases.length; k++) {
            x.station(k, 0, cases[k][1], 0);
            x.tell(k, 0, cases[k][0], 0);
            due(10, "mended", x.reading(k, 0, 3), cases[k][0]);
            due(10, "level from height " + cases[k][1], x.reading(k, 0, 4), cases[k][2]);
        }
    }

    private static void rises() {
        GlassRoom x = new GlassRoom();
        due(11, "rise(3, 2, 0)", x.rise(3, 2, 0), 266666);
        due(11, "rise(4, 1, 0), each cut", x.rise(4, 1, 0), 866666);
        due(11, "rise(3, 2, -30)", x.rise(3, 2, -30), 237362);
        due(11, "rise(20000, 19999, 0)", x.rise(20000, 19999, 0), 40);
        due(11, "rise(20000, 19999, 50), cut", x.rise(20000, 19999, 50), 47);
        due(11, "rise(20001, 1, 0)", x.rise(20001, 1, 0), LOST - 2);
        due(11, "rise(5, 0, 0)", x.rise(5, 0, 0), LOST - 2);
        due(11, "rise(1, 1, 0)", x.rise(1, 1, 0), LOST - 2);
        due(11, "rise(1, 2, 0)", x.rise(1, 2, 0), LOST - 2);
        due(11, "rise(5, 4, -31)", x.rise(5, 4, -31), LOST - 2);
        due(11, "rise(5, 4, 51)", x.rise(5, 4, 51), LOST - 2);
        due(11, "rise(MAX, MIN, 0)", x.rise(Integer.MAX_VALUE, Integer.MIN_VALUE, 0), LOST - 2);
    }

    private static void risesOneByOne() {
        GlassRoom x = null;
        long sum = 0;
        for (int p = 2; p <= 20000; p++) {
            if (p % 200 == 2) {
                x = new GlassRoom();
            }
            sum += 800000 / p;
            due(11, "rise(" + p + ", 1, 0)", x.rise(p, 1, 0), sum);
            due(11, "rise(" + p + ", " + (p - 1) + ", 0)", x.rise(p, p - 1, 0), 800000 / p);
        }
    }

    private static void betweenStations() {
        GlassRoom x = new GlassRoom();
        x.station(0, 0, 0, 0);
        x.station(1, 0, 3000, 0);
        x.tell(0, 0, 7600, -1);
        due(12, "between, a gap", x.between(0, 1, 0), LOST - 6);
        due(12, "between, a gap", x.between(1, 0, 0), LOST - 6);
        x.tell(1, 0, 7000, 0);
        int p = (int) x.reading(0, 0, 3);
        int p2 = (int) x.reading(1, 0, 3);
        due(12, "between, half of -1 cut to 0", x.between(0, 1, 0), x.rise(p, p2, 0));
        due(12, "between the other way", x.between(1, 0, 0), -x.rise(p, p2, 0));
        due(12, "between one and itself", x.between(0, 0, 0), 0);
        x.tell(0, 1, 1, 50);
        x.tell(1, 1, 2, -30);
        due(12, "between, both held to 1", x.between(0, 1, 1), 0);
        x.tell(1, 1, 7000, -30);
        p2 = (int) x.reading(1, 1, 3);
        due(12, "between, the first held to 1", x.between(0, 1, 1), -x.rise(p2, 1, 10));
        due(12, "between(0, 1, -1)", x.between(0, 1, -1), LOST - 2);
        due(12, "between(0, 1, 48)", x.between(0, 1, 48), LOST - 2);
        due(12, "between(0, 2, 48)", x.between(0, 2, 48), LOST - 1);
        due(12, "between(-1, 0, 0)", x.between(-1, 0, 0), LOST - 1);
        due(12, "between(0, 1, 2)", x.between(0, 1, 2), LOST - 6);
    }

    // ---- 3 benches

    private static void benchesAnew() {
        GlassRoom x = new GlassRoom();
        due(13, "benches(1)", x.benches(1), -2);
        due(13, "benches(7)", x.benches(7), -2);
        due(13, "benches(2)", x.benches(2), 3);
        due(13, "benches(6)", x.benches(6), 2);
        x.difference(5, 0, 1, 1);
        due(13, "benches(1)", x.benches(1), -2);
        due(27, "told(3), refused", x.told(3), 1);
        due(13, "benches(6)", x.benches(6), 6);
        due(27, "told(2)", x.told(2), 6);
        due(27, "told(3)", x.told(3), 0);
    }

    private static void differencesAndDrops() {
        GlassRoom x = new GlassRoom();
        due(14, "difference(0, 3, 0, 1)", x.difference(0, 3, 0, 1), -1);
        due(14, "difference(-1, 1, 0, 1)", x.difference(-1, 1, 0, 1), -1);
        due(14, "difference(1, 1, 0, 0)", x.difference(1, 1, 0, 0), -1);
        due(14, "difference, weight 0", x.difference(0, 1, 0, 0), -2);
        due(14, "difference, weight 10", x.difference(0, 1, 0, 10), -2);
        due(14, "difference, too far down", x.difference(0, 1, -1000001, 1), -2);
        due(14, "difference, too far up", x.difference(0, 1, 1000001, 1), -2);
        due(14, "difference at the ends", x.difference(0, 1, -1000000, 1), 0);
        due(14, "difference at the ends", x.difference(0, 1, 1000000, 9), 1);
        for (int k = 2; k < 12; k++) {
            due(14, "difference " + k, x.difference(1, 2, k, 1), k);
        }
        due(14, "difference, full", x.difference(1, 2, 0, 1), -4);
        due(14, "difference, outside ahead of full", x.difference(1, 2, 0, 0), -2);
        due(14, "difference, unknown ahead of full", x.difference(1, 3, 0, 0), -1);
        for (int left = 11; left >= 0; left--) {
            due(15, "drop()", x.drop(), left);
            due(27, "told(3)", x.told(3), left);
        }
        due(15, "drop(), none", x.drop(), -1);
        due(14, "difference after drops", x.difference(0, 2, 5, 5), 0);
    }

    private static void heightsAndOffs() {
        GlassRoom x = new GlassRoom();
        x.benches(2);
        due(16, "height, not joined", x.height(1, 0), LOST - 5);
        due(16, "height of the sea, not joined", x.height(0, 1), LOST - 5);
        due(16, "height, outside ahead of not joined", x.height(0, 2), LOST - 2);
        due(16, "height, unknown ahead of outside", x.height(2, 2), LOST - 1);
        due(16, "height(-1, 0)", x.height(-1, 0), LOST - 1);
        x.difference(0, 1, 11, 1);
        due(16, "height", x.height(1, 0), 11);
        x.difference(1, 0, -12, 1);
        due(16, "height, upper", x.height(1, 0), 23);
        due(16, "height, lower", x.height(1, 1), 2);
        due(16, "the sea, upper", x.height(0, 0), 0);
        due(16, "the sea, lower", x.height(0, 1), 1);
        due(17, "off(0, 0)", x.off(0, 0), 1);
        due(17, "off(0, 1)", x.off(0, 1), 2);
        due(17, "off(1, 0)", x.off(1, 0), 1);
        due(17, "off(1, 1)", x.off(1, 1), 2);
        x.difference(0, 1, 10, 4);
        due(16, "height by weights, upper", x.height(1, 0), 21);
        due(16, "height by weights, lower", x.height(1, 1), 2);
        due(17, "off(0, 0), too low now", x.off(0, 0), -1);
        due(17, "off(1, 0), the other way round", x.off(1, 0), 3);
        due(17, "off(2, 0)", x.off(2, 0), 1);
        due(17, "off(2, 1)", x.off(2, 1), 2);
        due(17, "off(3, 0)", x.off(3, 0), LOST - 1);
        due(17, "off(-1, 9)", x.off(-1, 9), LOST - 1);
        due(17, "off(0, -1)", x.off(0, -1), LOST - 2);
        due(17, "off(0, 2)", x.off(0, 2), LOST - 2);
        x.drop();
        due(16, "height after a drop", x.height(1, 0), 23);
        x.benches(3);
        x.difference(1, 2, 5, 1);
        due(17, "off, not joined", x.off(0, 0), LOST - 5);
        due(17, "off, outside ahead of not joined", x.off(0, 2), LOST - 2);
        x.difference(2, 0, 5, 1);
        due(16, "height, joined by way of another", x.height(1, 0), -10);
        due(17, "off, upper", x.off(0, 0), 0);
        due(17, "off, lower", x.off(0, 1), 1);
    }

    private static void heightsOfManyBenches() {
        GlassRoom x = new GlassRoom();
        x.benches(6);
        for (int k = 0; k < 5; k++) {
            due(14, "difference", x.difference(k, k + 1, 1000000, 9), k);
            due(16, "height, some not joined yet", x.height(0, 0) == LOST - 5 ? 1 : 0, k < 4 ? 1 : 0);
        }
        due(16, "height of a long chain", x.height(5, 0), 5000000);
        for (int k = 0; k < 7; k++) {
            x.difference(5, 0, 1000000, 9);
        }
        // The chain counts as 9 by 5 for 5000000, the seven as 63 for -1000000.
        due(16, "height with a great misfit, upper", x.height(5, 0), -2500000);
        due(16, "height with a great misfit, lower", x.height(5, 1), 3);
        due(17, "off in the chain, upper", x.off(4, 0), -3500000);
        due(17, "off in the chain, lower", x.off(4, 1), 3);
        due(17, "off of the seven, upper", x.off(11, 0), -500000);
        due(18, "worst()", x.worst(), 0);
    }

    private static void worstOnes() {
        GlassRoom x = new GlassRoom();
        due(18, "worst(), none", x.worst(), -6);
        x.difference(0, 1, 5, 1);
        due(18, "worst(), not joined", x.worst(), -5);
        x.difference(1, 2, 5, 1);
        due(18, "worst(), all fit", x.worst(), 0);
        x.difference(0, 2, 13, 1);
        due(18, "worst(), all alike: the first", x.worst(), 0);
        x.drop();
        x.difference(0, 2, 7, 1);
        due(18, "worst(), all alike below 0", x.worst(), 0);
        x.drop();
        x.drop();
        x.difference(1, 2, 5, 9);
        x.difference(0, 2, 30, 9);
        due(18, "worst(), the lightest", x.worst(), 0);
        x.benches(3);
        x.difference(0, 1, 5, 9);
        x.difference(1, 2, 5, 9);
        x.difference(0, 2, 30, 1);
        due(18, "worst(), below 0", x.worst(), 2);
        x.benches(3);
        due(18, "worst(), none again", x.worst(), -6);
    }

    private static void closings() {
        GlassRoom x = new GlassRoom();
        x.benches(4);
        x.difference(0, 1, 10, 1);
        x.difference(0, 1, 99, 9);
        x.difference(2, 1, 7, 1);
        due(19, "closing, one is not there", x.closing(0, 1, 2), LOST - 6);
        x.difference(2, 0, 4, 1);
        due(19, "closing(0, 1, 2), by the first ones", x.closing(0, 1, 2), 10 - 7 + 4);
        due(19, "closing(1, 2, 0)", x.closing(1, 2, 0), 10 - 7 + 4);
        due(19, "closing(1, 0, 2)", x.closing(1, 0, 2), -10 - 4 + 7);
        due(19, "closing(0, 1, 3)", x.closing(0, 1, 3), LOST - 6);
        due(19, "closing(0, 1, 4)", x.closing(0, 1, 4), LOST - 1);
        due(19, "closing(-1, 1, 2)", x.closing(-1, 1, 2), LOST - 1);
        due(19, "closing(0, 0, 1)", x.closing(0, 0, 1), LOST - 1);
        due(19, "closing(1, 0, 0)", x.closing(1, 0, 0), LOST - 1);
        due(19, "closing(0, 1, 0)", x.closing(0, 1, 0), LOST - 1);
        due(19, "closing, unknown ahead of none", x.closing(3, 3, 2), LOST - 1);
    }

    // ---- 4 the map

    /** Stations at height 0 whose glass is right as it is: RIGHT at warmth 0 is r for r 6601 to 8599. */
    private static GlassRoom map(int... at) {
        GlassRoom x = new GlassRoom();
        x.set(0, 1, 1000);
        x.set(0, 3, 10);
        for (int k = 0; k < at.length; k += 2) {
            due(7, "station", x.station(at[k], at[k + 1], 0, 0), k / 2);
        }
        return x;
    }

    /** Tells station by station; 0 is a gap. */
    private static void tellAll(GlassRoom x, int hour, int... readings) {
        for (int k = 0; k < readings.length; k++) {
            if (readings[k] != 0) {
                x.tell(k, hour, readings[k], 0);
            }
        }
    }

    private static void fields() {
        GlassRoom x = map(0, 0, 1, 0);
        due(20, "field, no reading", x.field(0, 0, 0), LOST - 6);
        tellAll(x, 0, 7605, 7615);
        due(20, "field, by distance", x.field(0, 0, 0), 7608);
        due(20, "field, by distance", x.field(0, 1, 0), 7611);
        due(20, "field, shares cut", x.field(0, 7, 7), (7605 * 10 + 7615 * 11) / 21);
        x.gap(1, 0);
        due(20, "field by one", x.field(0, 7, 7), 7605);
        due(20, "field(-1, 0, 0)", x.field(-1, 0, 0), LOST - 2);
        due(20, "field(48, 0, 0)", x.field(48, 0, 0), LOST - 2);
        due(20, "field(0, -1, 0)", x.field(0, -1, 0), LOST - 2);
        due(20, "field(0, 8, 0)", x.field(0, 8, 0), LOST - 2);
        due(20, "field(0, 0, -1)", x.field(0, 0, -1), LOST - 2);
        due(20, "field(1, 0, 8), outside ahead of none", x.field(1, 0, 8), LOST - 2);
        GlassRoom high = map(0, 0);
        high.station(7, 7, 500, 0);
        high.tell(1, 0, 7200, 0);
        due(20, "field is by levels", high.field(0, 0, 0), high.reading(1, 0, 4));
    }

    private static void lows() {
        GlassRoom x = map(1, 1, 6, 6, 1, 6, 6, 1);
        tellAll(x, 0, 7000, 7000, 7600, 7600);
        int[] points = {7, 9, 54, 56};
        due(21, "low(0, -1)", x.low(0, -1), 4);
        for (int i = 0; i < 4; i++) {
            due(21, "low(0, " + i + ")", x.low(0, i), points[i]);
        }
        due(21, "low(0, 4)", x.low(0, 4), -6);
        due(21, "low(0, -2)", x.low(0, -2), -6);
        due(21, "low(0, MIN)", x.low(0, Integer.MIN_VALUE), -6);
        due(21, "low(1, -1), no reading", x.low(1, -1), 0);
        due(21, "low(1, 0), no reading", x.low(1, 0), -6);
        due(21, "low(-1, 0)", x.low(-1, 0), -2);
        due(21, "low(48, -1)", x.low(48, -1), -2);
        GlassRoom even = map(3, 3, 4, 3, 0, 7, 7, 7, 0, 0, 7, 0);
        tellAll(even, 0, 7000, 7000, 7600, 7600, 7600, 7600);
        due(21, "two alike: as high", even.field(0, 3, 3), even.field(0, 4, 3));
        due(21, "two alike: one low", even.low(0, -1), 1);
        due(21, "two alike: the lesser number", even.low(0, 0), 27);
        tellAll(even, 1, 7600, 7600);
        due(21, "all alike: one low", even.low(1, -1), 1);
        due(21, "all alike: point 0", even.low(1, 0), 0);
    }

    private static void followedLows() {
        GlassRoom x = map(2, 2, 4, 4, 5, 2, 7, 7);
        int far = 7600;
        tellAll(x, 0, 7000, 0, 0, far);
        tellAll(x, 1, 0, 7000, 0, far);
        tellAll(x, 2, 0, 0, 7000, far);
        due(22, "follow, no hour", x.follow(0, 0, 0), 18);
        due(22, "follow by a square of 8", x.follow(0, 0, 1), 36);
        due(22, "follow on", x.follow(0, 0, 2), 21);
        due(22, "follow into no reading", x.follow(0, 0, 3), -6);
        due(22, "follow from later on", x.follow(1, 0, 1), 21);
        tellAll(x, 10, 7000, 0, 0, far);
        tellAll(x, 11, 0, 0, 7000, far);
        tellAll(x, 12, 0, 0, 7000, far);
        due(22, "follow, a square of 9", x.follow(10, 0, 1), -6);
        due(22, "follow, lost before", x.follow(10, 0, 2), -6);
        tellAll(x, 20, 0, 7000, 0, far);
        tellAll(x, 21, 7000, 0, 7000, far);
        due(22, "follow, the nearest", x.follow(20, 0, 1), 21);
        GlassRoom two = map(4, 4, 2, 4, 6, 4, 0, 4, 7, 4);
        tellAll(two, 0, 7000, 0, 0, far, far);
        tellAll(two, 1, far, 7000, 7000, far, far);
        due(22, "follow, from the middle", two.follow(0, 0, 0), 36);
        due(22, "follow, two lows", two.low(1, -1), 2);
        due(22, "follow, the first of two alike", two.follow(0, 0, 1), 34);
        due(22, "follow the second low", two.follow(1, 1, 0), 38);
        tellAll(x, 47, 7000, 0, 0, far);
        due(22, "follow in the last hour", x.follow(47, 0, 0), 18);
        due(22, "follow past the last hour", x.follow(47, 0, 1), -6);
        due(22, "follow, 47 hours", x.follow(0, 0, 47), -6);
        due(22, "follow, no such low", x.follow(0, 1, 0), -6);
        due(22, "follow(0, -1, 0)", x.follow(0, -1, 0), -6);
        due(22, "follow, no reading", x.follow(3, 0, 0), -6);
        due(22, "follow(-1, 0, 0)", x.follow(-1, 0, 0), -2);
        due(22, "follow(48, 0, 0)", x.follow(48, 0, 0), -2);
        due(22, "follow(0, 0, -1)", x.follow(0, 0, -1), -2);
        due(22, "follow(0, 9, 48)", x.follow(0, 9, 48), -2);
        for (int hour = 0; hour < 48; hour++) {
            tellAll(x, hour, 7000, 0, 0, far);
            x.gap(1, hour);
            x.gap(2, hour);
        }
        due(22, "follow through all hours", x.follow(0, 0, 47), 18);
    }

    private static void oneLine(GlassRoom x, int v, int i, int... want) {
        for (int what = 0; what < 4; what++) {
            due(24, "line(0, " + v + ", " + i + ", " + what + ")", x.line(0, v, i, what), want[what]);
        }
    }

    private static void allLines(GlassRoom x, int v, int... want) {
        for (int what = 0; what < 4; what++) {
            due(23, "lines(0, " + v + ", " + what + ")", x.lines(0, v, what), want[what]);
        }
    }

    private static void linesThroughSaddles() {
        // At 0, 0 and 1, 1 the field is 7571, beside them 7428: together 29998.
        GlassRoom x = map(0, 0, 1, 1, 1, 0, 0, 1);
        tellAll(x, 0, 8000, 8000, 7000, 7000);
        allLines(x, 7499, 2, 0, 14, 54);
        oneLine(x, 7499, 0, 7, 0, 0, 11);
        oneLine(x, 7499, 1, 7, 0, 1, 81);
        allLines(x, 7500, 2, 0, 14, 54);
        oneLine(x, 7500, 0, 2, 0, 0, 1);
        oneLine(x, 7500, 1, 12, 0, 3, 81);
        // The same with the high corners at the square's other two points.
        x = map(1, 0, 0, 1, 0, 0, 1, 1);
        tellAll(x, 0, 8000, 8000, 7000, 7000);
        oneLine(x, 7499, 0, 2, 0, 0, 1);
        due(24, "the other saddle, round the high corner", x.line(0, 7500, 0, 0) > 2 ? 1 : 0, 1);
        // 7571 and 7429 twice are 30000: not less than 4 times 7500.
        x = map(0, 0, 1, 1, 1, 0, 0, 1);
        tellAll(x, 0, 8000, 8000, 7001, 7001);
        due(23, "as much as 4 v", x.field(0, 0, 0) + x.field(0, 1, 1) + x.field(0, 1, 0) + x.field(0, 0, 1), 30000);
        due(24, "as much as 4 v: round what is not high", x.line(0, 7500, 0, 0) > 2 ? 1 : 0, 1);
        oneLine(x, 7501, 0, 2, 0, 0, 1);
        // In the middle of the map two open lines part either way.
        x = map(3, 3, 4, 4, 4, 3, 3, 4);
        tellAll(x, 0, 8000, 8000, 7000, 7000);
        oneLine(x, 7499, 0, 8, 0, 6, 63);
        oneLine(x, 7499, 1, 8, 0, 49, 118);
        oneLine(x, 7500, 0, 8, 0, 6, 55);
        oneLine(x, 7500, 1, 8, 0, 57, 118);
    }

    private static void linesRoundAndOpen() {
        GlassRoom x = map(1, 1, 6, 6, 1, 6, 6, 1, 3, 3);
        tellAll(x, 0, 7600, 7600, 7600, 7600, 7000);
        allLines(x, 7300, 1, 1, 12, 58);
        oneLine(x, 7300, 0, 12, 1, 23, 73);
        due(23, "a point just as high is high", x.lines(0, (int) x.field(0, 3, 3), 3), 64);
        due(23, "one more and it is not", x.lines(0, (int) x.field(0, 3, 3) + 1, 3), 63);
        oneLine(x, (int) x.field(0, 3, 3) + 1, 0, 4, 1, 39, 55);
        allLines(x, 1, 0, 0, 0, 64);
        allLines(x, 20000, 0, 0, 0, 0);
        GlassRoom open = map(1, 1, 6, 6, 1, 6, 6, 1);
        tellAll(open, 0, 7000, 7000, 7600, 7600);
        allLines(open, 7100, 2, 0, 16, 52);
        oneLine(open, 7100, 0, 8, 0, 2, 35);
        oneLine(open, 7100, 1, 8, 0, 77, 122);
    }

    private static void lineRefusals() {
        GlassRoom x = map(0, 0, 7, 7);
        tellAll(x, 0, 7000, 7600);
        due(24, "line, no such", x.line(0, 7300, 1, 0), -1);
        due(24, "line(0, 7300, -1, 0)", x.line(0, 7300, -1, 0), -1);
        due(24, "line, none at all", x.line(0, 1, 0, 0), -1);
        int[][] outside = {{-1, 7300, 0}, {48, 7300, 0}, {0, 0, 0}, {0, 20001, 0}, {0, 7300, -1}, {0, 7300, 4}};
        for (int[] o : outside) {
            due(23, "lines outside", x.lines(o[0], o[1], o[2]), -2);
            due(24, "line outside", x.line(o[0], o[1], 0, o[2]), -2);
            due(24, "line, outside ahead of no such", x.line(o[0], o[1], 99, o[2]), -2);
        }
        due(23, "lines, no reading", x.lines(1, 7300, 0), -3);
        due(23, "lines, outside ahead of no reading", x.lines(1, 0, 0), -2);
        due(24, "line, no reading", x.line(1, 7300, 0, 0), -3);
        due(24, "line, outside ahead of no reading", x.line(1, 7300, 0, 4), -2);
    }

    // ---- 5 drift

    private static final int[] HOURS = {5, 9, 20, 21, 40, 41};

    /** Two stations; the first is so much above the second in the hours 5, 9, 20, 21, 40, 41. */
    private static GlassRoom apart(int... excess) {
        GlassRoom x = map(0, 0, 1, 0);
        for (int k = 0; k < excess.length; k++) {
            tellAll(x, HOURS[k], 7600 + excess[k], 7600);
        }
        return x;
    }

    private static void drift(GlassRoom x, int station, long hour, long upper, long lower) {
        due(25, "drift(" + station + ", 0)", x.drift(station, 0), hour);
        due(25, "drift(" + station + ", 1)", x.drift(station, 1), upper);
        due(25, "drift(" + station + ", 2)", x.drift(station, 2), lower);
    }

    private static void drifts() {
        drift(apart(10, 20, 40), 0, LOST - 6, LOST - 6, LOST - 6);
        drift(apart(10, 20, 40, 50), 0, 20, 30, 1);
        drift(apart(10, 20, 40, 50), 1, 20, -30, 1);
        drift(apart(0, 0, 0, 6, 6), 0, 21, 6, 1);
        drift(apart(0, 0, 1, 6, 6), 0, 21, 17, 3);
        drift(apart(0, 0, 5, 6, 6), 0, 20, 17, 3);
        drift(apart(0, 0, 0, 0, 0), 0, 20, 0, 1);
        // Up by 10 and down by 10 are one size: the first stays.
        drift(apart(0, 0, 30, 0, 0), 0, 20, 10, 1);
        drift(apart(0, 0, -30, 0, 0), 0, 20, -10, 1);
        // Two at least must lie on either side, however far the last one is off.
        drift(apart(0, 0, 0, 0, 900), 0, 21, 450, 1);
        drift(apart(900, 0, 0, 0, 0), 0, 20, -450, 1);
    }

    private static void driftEdges() {
        GlassRoom x = apart(10, 20, 40, 50);
        x.tell(0, 0, 8000, 0);
        x.tell(1, 47, 8000, 0);
        drift(x, 0, 20, 30, 1);
        x.gap(1, 9);
        drift(x, 0, LOST - 6, LOST - 6, LOST - 6);
        x.station(0, 2, 0, 0);
        x.tell(2, 9, 7600, 0);
        drift(x, 0, 20, 30, 1);
        // Of 500 for 7600 and 200 for 7610 the field is 7602, cut.
        x.tell(2, 5, 7610, 0);
        drift(x, 0, 20, 31, 1);
        due(25, "drift(0, -1)", x.drift(0, -1), LOST - 2);
        due(25, "drift(0, 3)", x.drift(0, 3), LOST - 2);
        due(25, "drift, outside ahead of none", x.drift(2, 3), LOST - 2);
        due(25, "drift(2, 0)", x.drift(2, 0), LOST - 6);
        due(25, "drift(3, 3)", x.drift(3, 3), LOST - 1);
        due(25, "drift(-1, 0)", x.drift(-1, 0), LOST - 1);
        GlassRoom alone = map(0, 0);
        for (int hour = 0; hour < 48; hour++) {
            alone.tell(0, hour, 7600 + hour, 0);
        }
        due(25, "drift of one alone", alone.drift(0, 0), LOST - 6);
        due(26, "mend of one alone", alone.mend(0), LOST - 6);
    }

    private static void mendings() {
        GlassRoom x = apart(0, 0, 1, 6, 6);
        due(26, "mend(0), cut", x.mend(0), 5);
        due(10, "ahead of the hour", x.reading(0, 20, 3), 7601);
        due(10, "from the hour on", x.reading(0, 21, 3), 7601);
        due(10, "right is not mended", x.reading(0, 21, 2), 7606);
        due(10, "level is mended", x.reading(0, 40, 4), 7601);
        due(12, "between is mended", x.between(0, 1, 40), x.rise(7601, 7600, 0));
        due(20, "field is mended", x.field(40, 0, 0), 7600);
        x.tell(0, 30, 7700, 0);
        due(26, "a reading told later is mended", x.reading(0, 30, 3), 7695);
        x.tell(0, 40, 7650, 0);
        due(26, "one told again is mended", x.reading(0, 40, 3), 7645);
        x.tell(0, 19, 7700, 0);
        due(26, "one told later, ahead of the hour, is not", x.reading(0, 19, 3), 7700);
        due(27, "told(4)", x.told(4), 1);
        x.gap(0, 30);
        x.gap(0, 19);
        // 0, 0, 1 and 1, 45 now: from the fourth on 23, less 1 by 3.
        drift(x, 0, 21, 68, 3);
        x.tell(0, 40, 7606, 0);
        due(26, "mend(0) again", x.mend(0), 1);
        due(26, "mend(1) by nothing", x.mend(1), 0);
        due(27, "told(4)", x.told(4), 3);
        due(26, "mend(0), a third time", x.mend(0), 0);
        due(26, "mend(0), full", x.mend(0), LOST - 4);
        for (int hour : HOURS) {
            x.gap(0, hour);
        }
        due(26, "mend, full ahead of none", x.mend(0), LOST - 4);
        due(26, "mend(1), none", x.mend(1), LOST - 6);
        due(26, "mend(2)", x.mend(2), LOST - 1);
        due(26, "mend(-1)", x.mend(-1), LOST - 1);
        due(27, "told(4)", x.told(4), 4);
        GlassRoom down = apart(0, 0, 0, -5, -6);
        due(26, "mend(0), below 0, cut towards 0", down.mend(0), -5);
        due(26, "it is more by that", down.reading(0, 21, 3), 7600);
        GlassRoom twice = apart(0, 0, 20, 20, 50, 50);
        due(26, "mend once", twice.mend(0), 40);
        due(26, "mend twice", twice.mend(0), 15);
        due(26, "both count", twice.reading(0, 40, 3), 7595);
        due(26, "one counts", twice.reading(0, 21, 3), 7605);
    }

    private static void counts() {
        GlassRoom x = new GlassRoom();
        x.station(0, 0, 0, 0);
        x.station(1, 0, 0, 0);
        x.tell(0, 0, 7600, 0);
        x.tell(1, 0, 7600, 0);
        x.tell(1, 0, 7601, 0);
        x.tell(1, 47, 7601, 0);
        x.benches(5);
        x.difference(0, 4, 1, 1);
        x.difference(0, 4, 1, 1);
        int[] want = {2, 3, 5, 2, 0, -2};
        for (int what = 0; what < 6; what++) {
            due(27, "told(" + what + ")", x.told(what), want[what]);
        }
        due(27, "told(-1)", x.told(-1), -2);
        due(27, "told(MIN)", x.told(Integer.MIN_VALUE), -2);
    }

    /** All that can be asked of a small room, as text. */
    private static String tellOf(GlassRoom x) {
        StringBuilder all = new StringBuilder();
        for (int g = 0; g < 2; g++) {
            for (int what = 0; what < 6; what++) {
                all.append(x.glass(g, what)).append(' ');
            }
            all.append(x.air(g, 0)).append(' ').append(x.air(g, 1)).append(' ');
        }
        for (int s = 0; s < 2; s++) {
            for (int what = 0; what < 5; what++) {
                all.append(x.reading(s, 21, what)).append(' ').append(x.reading(s, 5, what)).append(' ');
            }
            all.append(x.drift(s, 1)).append(' ');
        }
        for (int what = 0; what < 5; what++) {
            all.append(x.told(what)).append(' ');
        }
        return all.append(x.height(1, 0)).append(' ').append(x.off(1, 0)).append(' ').append(x.worst()).toString();
    }

    private static void refusalsChangeNothing() {
        GlassRoom x = apart(0, 0, 1, 6, 6);
        x.seal(1, 10, 10, 9, 4);
        x.benches(2);
        x.difference(0, 1, 5, 1);
        x.difference(0, 1, 8, 1);
        String before = tellOf(x);
        x.set(0, 3, 11);
        x.set(6, 3, 1);
        x.seal(1, 9, 10, 10, 4);
        x.seal(1, 9, 10, 10, 10);
        x.station(0, 0, 0, 0);
        x.station(2, 2, 5000, 0);
        x.station(2, 2, 0, 7);
        x.tell(0, 21, 0, 0);
        x.tell(0, 21, 7000, 99);
        x.tell(2, 21, 7000, 0);
        x.gap(2, 21);
        x.gap(0, 48);
        x.benches(9);
        x.difference(0, 0, 1, 1);
        x.difference(0, 1, 1, 10);
        x.mend(2);
        if (!before.equals(tellOf(x))) {
            wrong++;
            System.out.println("refused calls changed " + before + " to " + tellOf(x));
        }
    }
}
