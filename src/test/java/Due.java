/** What the tests by hand share: answers beside those that are due, and rooms whose numbers are easy to reckon with. */
final class Due {
    static final int UNKNOWN = -1, OUTSIDE = -2, STATE = -3, FULL = -4, NO = -5, NONE = -6;
    static final long LOST = -1000000000000000000L;
    static final int MIN = Integer.MIN_VALUE, MAX = Integer.MAX_VALUE;
    private static int asked = 0;
    private static int wrong = 0;

    private Due() { }

    static void due(int promise, String call, long got, long want) {
        asked++;
        if (got != want) {
            wrong++;
            System.out.println("promise " + promise + ": " + call + " answered " + got + ", due is " + want);
        }
    }

    static void holds(int promise, String what, boolean so) {
        due(promise, what, so ? 1 : 0, 1);
    }

    static void finish() {
        System.out.println(wrong == 0 ? asked + " answers are as due" : wrong + " answers are not as due");
        if (wrong != 0) {
            System.exit(1);
        }
    }

    /**
     * A room whose glasses tell the truth: by CUP 1000 and BORE 10 nothing is added to 6601 to 8599, and by SCALE 18
     * no warmth counts. Small readings come out less: RIGHT of 8 is 1, of 27 it is 20.
     */
    static GlassRoom truthful() {
        GlassRoom x = new GlassRoom();
        for (int g = 0; g < 6; g++) {
            x.set(g, 1, 1000);
            x.set(g, 3, 10);
            x.set(g, 4, 18);
        }
        return x;
    }

    /** The same with stations at height 0, at x, y of each two numbers. */
    static GlassRoom map(int... at) {
        GlassRoom x = truthful();
        for (int k = 0; k < at.length; k += 2) {
            due(7, "station(" + at[k] + ", " + at[k + 1] + ", 0, 0)", x.station(at[k], at[k + 1], 0, 0), k / 2);
        }
        return x;
    }

    /** Tells station by station at warmth 0; 0 is a gap. */
    static void tellAll(GlassRoom x, int hour, int... readings) {
        for (int k = 0; k < readings.length; k++) {
            if (readings[k] == 0) {
                x.gap(k, hour);
            } else {
                x.tell(k, hour, readings[k], 0);
            }
        }
    }
}
