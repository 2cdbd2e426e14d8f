/**
 * A room of weather glasses: their readings made right, heights between stations, benches joined
 * to the sea, the map of one level with its lows and lines, and the drift of a station.
 */
public final class GlassRoom {
    public static final int UNKNOWN = -1, OUTSIDE = -2, STATE = -3, FULL = -4, NO = -5, NONE = -6;
    public static final long LOST = -1000000000000000000L;

    private static final int GLASSES = 6;
    private static final int HOURS = 48;
    private static final int WIDTH = 8;
    private static final int MOST_READING = 12000;
    private static final int MOST_ROOM = 4000;
    private static final int LEAST_WARMTH = -30, MOST_WARMTH = 50;
    private static final int LEAST_HEIGHT = -400, MOST_HEIGHT = 4000;
    private static final int FURTHEST_SQUARE = 8;
    /** A glass has numbers down to -50, so refusals are told this much lower. */
    private static final int BELOW_NUMBERS = -100;

    private final Glass[] glasses = new Glass[GLASSES];
    private final Chart chart = new Chart();
    private final Contours contours = new Contours();
    private final Survey survey = new Survey();
    private final DriftFinder drifts = new DriftFinder();

    public GlassRoom() {
        for (int i = 0; i < GLASSES; i++) {
            glasses[i] = new Glass();
        }
    }

    // ---- 1 glasses

    public int set(int glass, int what, int v) {
        Glass g = findGlass(glass);
        if (g == null) {
            return BELOW_NUMBERS + UNKNOWN;
        }
        if (!Glass.hasNumber(what) || !Glass.allows(what, v)) {
            return BELOW_NUMBERS + OUTSIDE;
        }
        int before = g.number(what);
        g.putNumber(what, v);
        return before;
    }

    public int glass(int glass, int what) {
        Glass g = findGlass(glass);
        if (g == null) {
            return BELOW_NUMBERS + UNKNOWN;
        }
        return Glass.hasNumber(what) ? g.number(what) : BELOW_NUMBERS + OUTSIDE;
    }

    public int seal(int glass, int r, int s, int r2, int s2) {
        Glass g = findGlass(glass);
        if (g == null) {
            return UNKNOWN;
        }
        if (!isReading(r) || !isReading(r2) || !isRoom(s) || !isRoom(s2) || s == s2) {
            return OUTSIDE;
        }
        return g.findAir(r, s, r2, s2);
    }

    public long air(int glass, int part) {
        Glass g = findGlass(glass);
        if (g == null) {
            return LOST + UNKNOWN;
        }
        return isPart(part) ? g.airPart(part) : LOST + OUTSIDE;
    }

    public long right(int glass, int r, int w) {
        Glass g = findGlass(glass);
        if (g == null) {
            return LOST + UNKNOWN;
        }
        return isReading(r) && isWarmth(w) ? g.corrected(r, w) : LOST + OUTSIDE;
    }

    // ---- 2 stations

    public int station(int x, int y, int height, int glass) {
        Glass g = findGlass(glass);
        if (g == null) {
            return UNKNOWN;
        }
        if (!isOnMap(x) || !isOnMap(y) || !isWithin(height, LEAST_HEIGHT, MOST_HEIGHT)) {
            return OUTSIDE;
        }
        if (chart.isFull()) {
            return FULL;
        }
        return chart.isTaken(x, y) ? NO : chart.add(x, y, height, g);
    }

    public int tell(int station, int hour, int r, int w) {
        Station s = chart.find(station);
        if (s == null) {
            return UNKNOWN;
        }
        if (!isHour(hour) || !isReading(r) || !isWarmth(w)) {
            return OUTSIDE;
        }
        int answer = s.hasReading(hour) ? 2 : 1;
        s.putReading(hour, r, w);
        return answer;
    }

    public int gap(int station, int hour) {
        Station s = chart.find(station);
        if (s == null) {
            return UNKNOWN;
        }
        if (!isHour(hour)) {
            return OUTSIDE;
        }
        int answer = s.hasReading(hour) ? 1 : 0;
        s.clearReading(hour);
        return answer;
    }

    public long reading(int station, int hour, int what) {
        Station s = chart.find(station);
        if (s == null) {
            return LOST + UNKNOWN;
        }
        if (!isHour(hour) || !isWithin(what, 0, 4)) {
            return LOST + OUTSIDE;
        }
        return s.hasReading(hour) ? s.toldOf(hour, what) : LOST + NONE;
    }

    public long rise(int p, int p2, int t) {
        if (!Column.holds(p) || !Column.holds(p2) || !isWarmth(t) || p2 >= p) {
            return LOST + OUTSIDE;
        }
        return Column.climb(p, p2, t);
    }

    public long between(int a, int b, int hour) {
        Station first = chart.find(a);
        Station second = chart.find(b);
        if (first == null || second == null) {
            return LOST + UNKNOWN;
        }
        if (!isHour(hour)) {
            return LOST + OUTSIDE;
        }
        if (!first.hasReading(hour) || !second.hasReading(hour)) {
            return LOST + NONE;
        }
        int p = Column.held(first.mended(hour));
        int p2 = Column.held(second.mended(hour));
        int t = (first.warmth(hour) + second.warmth(hour)) / 2;
        return p >= p2 ? Column.climb(p, p2, t) : -Column.climb(p2, p, t);
    }

    // ---- 3 benches

    public int benches(int n) {
        if (!isWithin(n, 2, Survey.MOST_BENCHES)) {
            return OUTSIDE;
        }
        int before = survey.benchCount();
        survey.startAnew(n);
        return before;
    }

    public int difference(int a, int b, int d, int weight) {
        if (!survey.hasBench(a) || !survey.hasBench(b) || a == b) {
            return UNKNOWN;
        }
        if (!isWithin(d, -1000000, 1000000) || !isWithin(weight, 1, 9)) {
            return OUTSIDE;
        }
        return survey.add(a, b, d, weight);
    }

    public int drop() {
        return survey.removeLatest();
    }

    public long height(int bench, int part) {
        if (!survey.hasBench(bench)) {
            return LOST + UNKNOWN;
        }
        if (!isPart(part)) {
            return LOST + OUTSIDE;
        }
        return survey.solve() ? fractionPart(survey.heightTop(bench), survey.bottom(), part) : LOST + NO;
    }

    public long off(int i, int part) {
        if (!survey.hasDifference(i)) {
            return LOST + UNKNOWN;
        }
        if (!isPart(part)) {
            return LOST + OUTSIDE;
        }
        return survey.solve() ? fractionPart(survey.misfitTop(i), survey.bottom(), part) : LOST + NO;
    }

    public int worst() {
        if (survey.count() == 0) {
            return NONE;
        }
        return survey.solve() ? survey.greatestMisfit() : NO;
    }

    public long closing(int a, int b, int c) {
        if (!survey.hasBench(a) || !survey.hasBench(b) || !survey.hasBench(c)
                || a == b || b == c || c == a) {
            return LOST + UNKNOWN;
        }
        if (!survey.joins(a, b) || !survey.joins(b, c) || !survey.joins(c, a)) {
            return LOST + NONE;
        }
        return survey.firstUp(a, b) + survey.firstUp(b, c) + survey.firstUp(c, a);
    }

    // ---- 4 the map

    public long field(int hour, int x, int y) {
        if (!isHour(hour) || !isOnMap(x) || !isOnMap(y)) {
            return LOST + OUTSIDE;
        }
        return chart.readLevels(hour) ? chart.fieldAt(x, y, NONE) : LOST + NONE;
    }

    public int low(int hour, int i) {
        if (!isHour(hour)) {
            return OUTSIDE;
        }
        chart.readHour(hour);
        return i == -1 ? chart.lowCount() : chart.lowPoint(i);
    }

    public int follow(int hour, int i, int n) {
        if (!isHour(hour) || !isWithin(n, 0, HOURS - 1)) {
            return OUTSIDE;
        }
        chart.readHour(hour);
        int point = chart.lowPoint(i);
        for (int later = hour + 1; later <= hour + n && point != NONE; later++) {
            if (later >= HOURS) {
                return NONE;
            }
            chart.readHour(later);
            point = chart.lowNear(point);
        }
        return point;
    }

    public int lines(int hour, int v, int what) {
        if (!isHour(hour) || !Column.holds(v) || !isWithin(what, 0, 3)) {
            return OUTSIDE;
        }
        if (!chart.readHour(hour)) {
            return STATE;
        }
        contours.drawAt(chart, v);
        return contours.sumOfAll(what);
    }

    public int line(int hour, int v, int i, int what) {
        if (!isHour(hour) || !Column.holds(v) || !isWithin(what, 0, 3)) {
            return OUTSIDE;
        }
        // Without a reading there are no lines either: asked first, or STATE would never be told.
        if (!chart.readHour(hour)) {
            return STATE;
        }
        contours.drawAt(chart, v);
        return contours.hasLine(i) ? contours.ofLine(i, what) : UNKNOWN;
    }

    // ---- 5 drift

    public long drift(int station, int part) {
        if (chart.find(station) == null) {
            return LOST + UNKNOWN;
        }
        if (!isWithin(part, 0, 2)) {
            return LOST + OUTSIDE;
        }
        drifts.compare(chart, station);
        if (!drifts.search()) {
            return LOST + NONE;
        }
        return part == 0 ? drifts.hour() : fractionPart(drifts.top(), drifts.bottom(), part - 1);
    }

    public long mend(int station) {
        Station s = chart.find(station);
        if (s == null) {
            return LOST + UNKNOWN;
        }
        if (s.mendings() >= Station.MOST_MENDINGS) {
            return LOST + FULL;
        }
        drifts.compare(chart, station);
        if (!drifts.search()) {
            return LOST + NONE;
        }
        long size = cut(drifts.top(), drifts.bottom());
        s.addMending(drifts.hour(), size);
        return size;
    }

    public int told(int what) {
        switch (what) {
            case 0:
                return chart.stationCount();
            case 1:
                return chart.countReadings();
            case 2:
                return survey.benchCount();
            case 3:
                return survey.count();
            case 4:
                return chart.countMendings();
            default:
                return OUTSIDE;
        }
    }

    // ---- what all parts use

    private Glass findGlass(int glass) {
        return isWithin(glass, 0, GLASSES - 1) ? glasses[glass] : null;
    }

    private static boolean isWithin(int v, int least, int most) {
        return v >= least && v <= most;
    }

    private static boolean isReading(int r) {
        return isWithin(r, 1, MOST_READING);
    }

    private static boolean isRoom(int s) {
        return isWithin(s, 1, MOST_ROOM);
    }

    private static boolean isWarmth(int w) {
        return isWithin(w, LEAST_WARMTH, MOST_WARMTH);
    }

    private static boolean isHour(int hour) {
        return isWithin(hour, 0, HOURS - 1);
    }

    private static boolean isOnMap(int x) {
        return isWithin(x, 0, WIDTH - 1);
    }

    private static boolean isPart(int part) {
        return part == 0 || part == 1;
    }

    /** A quotient cut towards 0. Ranges keep every divisor above 0; the test is here so that none need be trusted. */
    private static long cut(long top, long bottom) {
        return bottom == 0 ? 0 : top / bottom;
    }

    /** The upper (part 0) or lower number of a fraction in lowest terms; its bottom is above 0. */
    private static long fractionPart(long top, long bottom, int part) {
        long common = commonMeasure(Math.abs(top), bottom);
        return cut(part == 0 ? top : bottom, common);
    }

    private static long commonMeasure(long a, long b) {
        // Euclid's way ends within 92 steps for any two longs.
        for (int step = 0; step < 100 && b != 0; step++) {
            long rest = a % b;
            a = b;
            b = rest;
        }
        return a;
    }

    private static int squareBetween(int x, int y, int x2, int y2) {
        return (x - x2) * (x - x2) + (y - y2) * (y - y2);
    }

    /** One weather glass: its six numbers, and the air in its tube as a fraction. */
    private static final class Glass {
        private static final int INDEX = 0, CUP = 1, NEUTRAL = 2, BORE = 3, SCALE = 4, TUBE = 5;
        private static final int[] FIRST = {0, 100, 7600, 5, 2, 8500};
        private static final int[] LEAST = {-50, 10, 6000, 1, 0, 8000};
        private static final int[] MOST = {50, 1000, 8000, 10, 30, 12000};
        private static final int[] DROP_BY_BORE = {40, 20, 12, 8, 5, 3, 2, 1, 1, 0};

        private final int[] numbers = FIRST.clone();
        private long airTop = 0;
        private long airBottom = 1;

        static boolean hasNumber(int what) {
            return isWithin(what, 0, FIRST.length - 1);
        }

        static boolean allows(int what, int v) {
            return isWithin(v, LEAST[what], MOST[what]);
        }

        int number(int what) {
            return numbers[what];
        }

        void putNumber(int what, int v) {
            numbers[what] = v;
        }

        /** Takes the air that two depths tell: 1, 0 if there is none, or NO (it would be below 0). */
        int findAir(int r, int s, int r2, int s2) {
            long top = (long) (r - r2) * s * s2;
            if (s < s2) {
                top = -top;
            }
            if (top < 0) {
                return NO;
            }
            airTop = top;
            airBottom = Math.abs(s - s2);
            return top > 0 ? 1 : 0;
        }

        long airPart(int part) {
            return fractionPart(airTop, airBottom, part);
        }

        long corrected(int r, int w) {
            long a = r + numbers[INDEX];
            long b = a + cut(a - numbers[NEUTRAL], numbers[CUP]);
            long c = b + DROP_BY_BORE[numbers[BORE] - 1];
            long d = cut(c * (100000 + numbers[SCALE] * w), 100000 + 18 * w);
            long room = numbers[TUBE] - d;
            if (room <= 0) {
                return d;
            }
            // One cut for both: below 0 it differs from cutting the air's share alone.
            return cut(d * room * airBottom + airTop, room * airBottom);
        }
    }

    /** The column of air: how much it rises while the quicksilver falls by whole tenths. */
    private static final class Column {
        static final int MOST = 20000;
        private static final int SHARE = 800000;
        private static final int ICE = 2730;
        private static final int BLOCK = 100;
        /**
         * Sums of 800000 by each whole number up to 0, 100, 200 .. 20000 (each cut): a level is asked for
         * hundreds of times in one call, and adding up thousands of shares for each would be dear.
         */
        private static final int[] SUMS = {
            0, 4149860, 4702337, 5025992, 5255754, 5434020, 5579693, 5702867, 5809571, 5903688,
            5987883, 6064045, 6133574, 6197531, 6256745, 6311870, 6363434, 6411869, 6457532, 6500724,
            6541700, 6580674, 6617831, 6653334, 6687324, 6719926, 6751244, 6781380, 6810419, 6838437,
            6865504, 6891682, 6917028, 6941590, 6965419, 6988556, 7011040, 7032905, 7054185, 7074914,
            7095117, 7114818, 7134042, 7152817, 7171155, 7189081, 7206613, 7223766, 7240555, 7257000,
            7273113, 7288902, 7304385, 7319574, 7334476, 7349102, 7363468, 7377574, 7391440, 7405061,
            7418456, 7431631, 7444590, 7457340, 7469889, 7482240, 7494401, 7506378, 7518179, 7529812,
            7541268, 7552564, 7563706, 7574685, 7585524, 7596207, 7606754, 7617165, 7627431, 7637574,
            7647594, 7657474, 7667237, 7676884, 7686417, 7695838, 7705148, 7714345, 7723436, 7732424,
            7741312, 7750102, 7758797, 7767397, 7775899, 7784310, 7792633, 7800871, 7809027, 7817103,
            7825103, 7833003, 7840829, 7848585, 7856274, 7863874, 7871400, 7878866, 7886266, 7893576,
            7900834, 7908034, 7915145, 7922212, 7929212, 7936140, 7943034, 7949834, 7956598, 7963298,
            7969938, 7976538, 7983059, 7989559, 7995966, 8002366, 8008666, 8014964, 8021164, 8027364,
            8033467, 8039567, 8045581, 8051581, 8057514, 8063414, 8069273, 8075073, 8080866, 8086566,
            8092266, 8097901, 8103501, 8109086, 8114586, 8120086, 8125531, 8130931, 8136331, 8141645,
            8146945, 8152239, 8157439, 8162639, 8167823, 8172923, 8178023, 8183109, 8188109, 8193109,
            8198109, 8203009, 8207909, 8212809, 8217635, 8222435, 8227235, 8232001, 8236701, 8241401,
            8246101, 8250722, 8255322, 8259922, 8264513, 8269013, 8273513, 8278013, 8282490, 8286890,
            8291290, 8295690, 8300071, 8304371, 8308671, 8312971, 8317271, 8321475, 8325675, 8329875,
            8334075, 8338222, 8342322, 8346422, 8350522, 8354622, 8358634, 8362634, 8366634, 8370634,
            8374634
        };

        static boolean holds(int p) {
            return isWithin(p, 1, MOST);
        }

        static int held(long p) {
            return (int) Math.max(1, Math.min(MOST, p));
        }

        /** RISE from p to p2, in centimetres; neither is above MOST, and p2 is not above p. */
        static long climb(int p, int p2, int t) {
            return cut((long) (sumTo(p) - sumTo(p2)) * (ICE + 10 * t), ICE);
        }

        /** What a glass that shows p at a height would show at height 0. */
        static int reduced(int p, int height, int t) {
            if (height == 0) {
                return p;
            }
            int need = sumNeeded(100L * Math.abs(height), t);
            if (height > 0) {
                return leastReaching(sumTo(p) + need);
            }
            return Math.max(1, leastReaching(sumTo(p) - need + 1) - 1);
        }

        /** The least sum that, warmed and cut, comes to so many centimetres or more. */
        private static int sumNeeded(long centimetres, int t) {
            int warmed = ICE + 10 * t;
            return (int) cut(centimetres * ICE + warmed - 1, warmed);
        }

        private static int sumTo(int p) {
            int block = p / BLOCK;
            int sum = SUMS[block];
            for (int k = block * BLOCK + 1; k <= p; k++) {
                sum += SHARE / k;
            }
            return sum;
        }

        /** The least number whose sum is so much or more; MOST, if none is. */
        private static int leastReaching(int wanted) {
            int block = 0;
            for (int step = 128; step > 0; step /= 2) {
                if (block + step < SUMS.length && SUMS[block + step] < wanted) {
                    block += step;
                }
            }
            int sum = SUMS[block];
            for (int p = block * BLOCK + 1; p <= MOST; p++) {
                sum += SHARE / p;
                if (sum >= wanted) {
                    return p;
                }
            }
            return MOST;
        }
    }

    /** One station: where it stands, what it read in each hour, and how it was mended. */
    private static final class Station {
        static final int MOST_MENDINGS = 3;

        private final int x;
        private final int y;
        private final int height;
        private final Glass glass;
        /** 0 is a gap: no reading is 0. */
        private final int[] readings = new int[HOURS];
        private final int[] warmths = new int[HOURS];
        private final int[] mendHours = new int[MOST_MENDINGS];
        private final long[] mendSizes = new long[MOST_MENDINGS];
        private int mendCount = 0;

        Station(int x, int y, int height, Glass glass) {
            this.x = x;
            this.y = y;
            this.height = height;
            this.glass = glass;
        }

        boolean isAt(int atX, int atY) {
            return x == atX && y == atY;
        }

        boolean hasReading(int hour) {
            return readings[hour] != 0;
        }

        void putReading(int hour, int r, int w) {
            readings[hour] = r;
            warmths[hour] = w;
        }

        void clearReading(int hour) {
            readings[hour] = 0;
        }

        int countReadings() {
            int count = 0;
            for (int hour = 0; hour < HOURS; hour++) {
                if (hasReading(hour)) {
                    count++;
                }
            }
            return count;
        }

        int warmth(int hour) {
            return warmths[hour];
        }

        int mendings() {
            return mendCount;
        }

        void addMending(int hour, long size) {
            if (mendCount < MOST_MENDINGS) {
                mendHours[mendCount] = hour;
                mendSizes[mendCount] = size;
                mendCount++;
            }
        }

        long toldOf(int hour, int what) {
            switch (what) {
                case 0:
                    return readings[hour];
                case 1:
                    return warmths[hour];
                case 2:
                    return glass.corrected(readings[hour], warmths[hour]);
                case 3:
                    return mended(hour);
                default:
                    return levelAt(hour);
            }
        }

        /** A mending is kept with its hour, not put into the readings: those told later are mended too. */
        long mended(int hour) {
            long p = glass.corrected(readings[hour], warmths[hour]);
            for (int k = 0; k < mendCount; k++) {
                if (hour >= mendHours[k]) {
                    p -= mendSizes[k];
                }
            }
            return p;
        }

        int levelAt(int hour) {
            return Column.reduced(Column.held(mended(hour)), height, warmths[hour]);
        }
    }

    /** Benches and the differences between them, brought to heights with least misfit. */
    private static final class Survey {
        static final int MOST_BENCHES = 6;
        private static final int MOST_DIFFERENCES = 12;

        private int benchCount = 3;
        private int count = 0;
        private final int[] froms = new int[MOST_DIFFERENCES];
        private final int[] tos = new int[MOST_DIFFERENCES];
        private final int[] ups = new int[MOST_DIFFERENCES];
        private final int[] weights = new int[MOST_DIFFERENCES];
        /** One row for each bench but the sea; the last column in use is what the row must come to. */
        private final long[][] rows = new long[MOST_BENCHES - 1][MOST_BENCHES];
        /** Heights are these by one bottom, so their sizes can be compared as they are. */
        private final long[] tops = new long[MOST_BENCHES];
        private long bottom = 0;
        private boolean solved = false;

        int benchCount() {
            return benchCount;
        }

        int count() {
            return count;
        }

        boolean hasBench(int bench) {
            return isWithin(bench, 0, benchCount - 1);
        }

        boolean hasDifference(int i) {
            return isWithin(i, 0, count - 1);
        }

        void startAnew(int n) {
            benchCount = n;
            count = 0;
            solved = false;
        }

        int add(int a, int b, int up, int weight) {
            if (count >= MOST_DIFFERENCES) {
                return FULL;
            }
            froms[count] = a;
            tos[count] = b;
            ups[count] = up;
            weights[count] = weight;
            solved = false;
            return count++;
        }

        int removeLatest() {
            if (count == 0) {
                return UNKNOWN;
            }
            solved = false;
            return --count;
        }

        boolean joins(int a, int b) {
            return firstBetween(a, b) != NONE;
        }

        /** What the first difference between two benches goes up from the one to the other. */
        long firstUp(int a, int b) {
            int i = firstBetween(a, b);
            if (i == NONE) {
                return 0;
            }
            return froms[i] == a ? ups[i] : -ups[i];
        }

        private int firstBetween(int a, int b) {
            for (int i = 0; i < count; i++) {
                if ((froms[i] == a && tos[i] == b) || (froms[i] == b && tos[i] == a)) {
                    return i;
                }
            }
            return NONE;
        }

        long heightTop(int bench) {
            return tops[bench];
        }

        long misfitTop(int i) {
            return tops[tos[i]] - tops[froms[i]] - ups[i] * bottom;
        }

        long bottom() {
            return bottom;
        }

        int greatestMisfit() {
            int worst = 0;
            for (int i = 1; i < count; i++) {
                if (Math.abs(misfitTop(i)) > Math.abs(misfitTop(worst))) {
                    worst = i;
                }
            }
            return worst;
        }

        /** Finds all heights; whether every bench is joined to the sea. */
        boolean solve() {
            if (!solved) {
                int unknowns = benchCount - 1;
                fillRows(unknowns);
                // It is the sum, over all ways to join every bench just once, of their weights' products.
                bottom = determinant(rows, unknowns, NONE, 0, 0);
                tops[0] = 0;
                for (int k = 0; k < unknowns; k++) {
                    tops[k + 1] = determinant(rows, unknowns, k, 0, 0);
                }
                solved = true;
            }
            return bottom > 0;
        }

        /** Where the misfit is least, each bench's weighted misfits come to 0 together: a row says so. */
        private void fillRows(int unknowns) {
            for (int k = 0; k < unknowns; k++) {
                for (int j = 0; j <= unknowns; j++) {
                    rows[k][j] = 0;
                }
            }
            for (int i = 0; i < count; i++) {
                addToRow(tos[i] - 1, froms[i] - 1, weights[i], (long) weights[i] * ups[i]);
                addToRow(froms[i] - 1, tos[i] - 1, weights[i], -(long) weights[i] * ups[i]);
            }
        }

        private void addToRow(int own, int other, int weight, long pull) {
            // The sea has no row, and at height 0 no share in another's.
            if (own < 0) {
                return;
            }
            rows[own][own] += weight;
            rows[own][benchCount - 1] += pull;
            if (other >= 0) {
                rows[own][other] -= weight;
            }
        }

        /**
         * Goes through columns from one on with the rows not yet used, one column replaced by the last. Expanding
         * keeps every step whole and below 2 to the 54th: 5 rows, weights of 216 at most together, ups of a million.
         */
        private static long determinant(long[][] rows, int n, int replaced, int column, int used) {
            if (column >= n) {
                return 1;
            }
            long sum = 0;
            int sign = 1;
            for (int k = 0; k < n; k++) {
                if ((used >> k & 1) == 0) {
                    long entry = rows[k][column == replaced ? n : column];
                    if (entry != 0) {
                        sum += sign * entry * determinant(rows, n, replaced, column + 1, used | 1 << k);
                    }
                    sign = -sign;
                }
            }
            return sum;
        }
    }

    /** The map: its stations and, for the hour that was read last, their levels, the field and its lows. */
    private static final class Chart {
        /** Far below any difference of two levels. */
        static final int NOT_COMPARED = -1000000;
        private static final int MOST_STATIONS = 8;

        private final Station[] stations = new Station[MOST_STATIONS];
        private int count = 0;
        /** 0 is a gap: levels are 1 or more. */
        private final int[] levels = new int[MOST_STATIONS];
        private final int[] fields = new int[WIDTH * WIDTH];
        private final int[] lows = new int[WIDTH * WIDTH];
        private int lowCount = 0;

        boolean isFull() {
            return count >= MOST_STATIONS;
        }

        int stationCount() {
            return count;
        }

        Station find(int station) {
            return isWithin(station, 0, count - 1) ? stations[station] : null;
        }

        boolean isTaken(int x, int y) {
            for (int k = 0; k < count; k++) {
                Station s = find(k);
                if (s != null && s.isAt(x, y)) {
                    return true;
                }
            }
            return false;
        }

        int add(int x, int y, int height, Glass glass) {
            if (isFull()) {
                return FULL;
            }
            stations[count] = new Station(x, y, height, glass);
            return count++;
        }

        int countReadings() {
            int sum = 0;
            for (int k = 0; k < count; k++) {
                Station s = find(k);
                sum += s == null ? 0 : s.countReadings();
            }
            return sum;
        }

        int countMendings() {
            int sum = 0;
            for (int k = 0; k < count; k++) {
                Station s = find(k);
                sum += s == null ? 0 : s.mendings();
            }
            return sum;
        }

        /** Takes the levels of an hour; whether there is any. */
        boolean readLevels(int hour) {
            boolean any = false;
            for (int k = 0; k < count; k++) {
                Station s = find(k);
                levels[k] = s != null && s.hasReading(hour) ? s.levelAt(hour) : 0;
                any = any || levels[k] != 0;
            }
            return any;
        }

        /** Takes levels, field and lows of an hour; whether there is any reading. */
        boolean readHour(int hour) {
            lowCount = 0;
            if (!readLevels(hour)) {
                return false;
            }
            for (int point = 0; point < fields.length; point++) {
                fields[point] = fieldAt(point % WIDTH, point / WIDTH, NONE);
            }
            for (int point = 0; point < fields.length; point++) {
                if (isLow(point)) {
                    lows[lowCount++] = point;
                }
            }
            return true;
        }

        /** The field of the hour that was read last, by all stations but one; 0, if none of them has a reading. */
        int fieldAt(int x, int y, int except) {
            long sum = 0;
            long weights = 0;
            for (int k = 0; k < count; k++) {
                Station s = find(k);
                if (s != null && levels[k] != 0 && k != except) {
                    int weight = 1000 / (1 + squareBetween(x, y, s.x, s.y));
                    sum += (long) levels[k] * weight;
                    weights += weight;
                }
            }
            return (int) cut(sum, weights);
        }

        /**
         * By how much a station is above what all others tell of its point, in the hour that was read last;
         * NOT_COMPARED, if it or every other one has a gap then.
         */
        int excess(int station) {
            Station s = find(station);
            if (s == null || levels[station] == 0) {
                return NOT_COMPARED;
            }
            int others = fieldAt(s.x, s.y, station);
            return others == 0 ? NOT_COMPARED : levels[station] - others;
        }

        int fieldOf(int point) {
            return fields[point];
        }

        private boolean isLow(int point) {
            int x = point % WIDTH;
            int y = point / WIDTH;
            for (int y2 = Math.max(0, y - 1); y2 <= Math.min(WIDTH - 1, y + 1); y2++) {
                for (int x2 = Math.max(0, x - 1); x2 <= Math.min(WIDTH - 1, x + 1); x2++) {
                    int beside = WIDTH * y2 + x2;
                    if (fields[beside] < fields[point] || (beside < point && fields[beside] == fields[point])) {
                        return false;
                    }
                }
            }
            return true;
        }

        int lowCount() {
            return lowCount;
        }

        int lowPoint(int i) {
            return isWithin(i, 0, lowCount - 1) ? lows[i] : NONE;
        }

        /** The low that one at a point in the hour before has come to; NONE, if it is lost. */
        int lowNear(int point) {
            int nearest = NONE;
            int least = FURTHEST_SQUARE + 1;
            for (int i = 0; i < lowCount; i++) {
                int square = squareBetween(point % WIDTH, point / WIDTH, lows[i] % WIDTH, lows[i] / WIDTH);
                if (square < least) {
                    least = square;
                    nearest = lows[i];
                }
            }
            return nearest;
        }
    }

    /** The lines of like height through the squares of a chart. */
    private static final class Contours {
        private static final int SIDES = 2 * WIDTH * WIDTH;

        private final boolean[] high = new boolean[WIDTH * WIDTH];
        /** Leads from a side that is cut to a lesser one of its line, or to itself if it is the least; else NONE. */
        private final int[] towardsLeast = new int[SIDES];
        /** By the least side of a line. */
        private final int[] sizes = new int[SIDES];
        private final int[] greatest = new int[SIDES];
        private final boolean[] round = new boolean[SIDES];
        /** The least sides of all lines, in order. */
        private final int[] leasts = new int[SIDES];
        private int lineCount = 0;
        private int roundCount = 0;
        private int sideCount = 0;
        private int highCount = 0;

        void drawAt(Chart chart, int v) {
            markPoints(chart, v);
            cutSides();
            for (int y = 0; y < WIDTH - 1; y++) {
                for (int x = 0; x < WIDTH - 1; x++) {
                    crossSquare(chart, v, x, y);
                }
            }
            gatherLines();
        }

        int sumOfAll(int what) {
            switch (what) {
                case 0:
                    return lineCount;
                case 1:
                    return roundCount;
                case 2:
                    return sideCount;
                default:
                    return highCount;
            }
        }

        boolean hasLine(int i) {
            return isWithin(i, 0, lineCount - 1);
        }

        int ofLine(int i, int what) {
            int least = leasts[i];
            switch (what) {
                case 0:
                    return sizes[least];
                case 1:
                    return round[least] ? 1 : 0;
                case 2:
                    return least;
                default:
                    return greatest[least];
            }
        }

        private void markPoints(Chart chart, int v) {
            highCount = 0;
            for (int point = 0; point < high.length; point++) {
                high[point] = chart.fieldOf(point) >= v;
                if (high[point]) {
                    highCount++;
                }
            }
        }

        private void cutSides() {
            for (int point = 0; point < high.length; point++) {
                boolean cutRight = point % WIDTH < WIDTH - 1 && high[point] != high[point + 1];
                boolean cutUp = point / WIDTH < WIDTH - 1 && high[point] != high[point + WIDTH];
                towardsLeast[2 * point] = cutRight ? 2 * point : NONE;
                towardsLeast[2 * point + 1] = cutUp ? 2 * point + 1 : NONE;
            }
        }

        private void crossSquare(Chart chart, int v, int x, int y) {
            int corner = WIDTH * y + x;
            int bottom = 2 * corner;
            int left = bottom + 1;
            int right = left + 2;
            int top = bottom + 2 * WIDTH;
            if (isCut(bottom) && isCut(left) && isCut(right) && isCut(top)) {
                int together = chart.fieldOf(corner) + chart.fieldOf(corner + 1)
                        + chart.fieldOf(corner + WIDTH) + chart.fieldOf(corner + WIDTH + 1);
                boolean roundHigh = together < 4 * v;
                if (high[corner] == roundHigh) {
                    join(bottom, left);
                    join(right, top);
                } else {
                    join(bottom, right);
                    join(left, top);
                }
                return;
            }
            // Two sides of it are cut, or none: each call but one finds a side that is not.
            join(bottom, left);
            join(bottom, right);
            join(bottom, top);
            join(left, right);
            join(left, top);
            join(right, top);
        }

        private boolean isCut(int side) {
            return towardsLeast[side] != NONE;
        }

        private void join(int side, int other) {
            if (isCut(side) && isCut(other)) {
                int a = leastOf(side);
                int b = leastOf(other);
                towardsLeast[Math.max(a, b)] = Math.min(a, b);
            }
        }

        private int leastOf(int side) {
            int least = side;
            for (int step = 0; step < SIDES && towardsLeast[least] != least; step++) {
                least = towardsLeast[least];
            }
            return least;
        }

        private void gatherLines() {
            lineCount = 0;
            sideCount = 0;
            roundCount = 0;
            for (int side = 0; side < SIDES; side++) {
                if (isCut(side)) {
                    addToLine(leastOf(side), side);
                    sideCount++;
                }
            }
            for (int i = 0; i < lineCount; i++) {
                if (round[leasts[i]]) {
                    roundCount++;
                }
            }
        }

        private void addToLine(int least, int side) {
            if (side == least) {
                leasts[lineCount++] = least;
                sizes[least] = 0;
                round[least] = true;
            }
            sizes[least]++;
            greatest[least] = side;
            if (isAtBorder(side)) {
                round[least] = false;
            }
        }

        private static boolean isAtBorder(int side) {
            int across = side % 2 == 0 ? side / 2 / WIDTH : side / 2 % WIDTH;
            return across == 0 || across == WIDTH - 1;
        }
    }

    /** Looks for the hour at which a station's excess over its neighbours changed the most. */
    private static final class DriftFinder {
        private final int[] hours = new int[HOURS];
        private final int[] excesses = new int[HOURS];
        private int count = 0;
        private int hour = 0;
        private long top = 0;
        private long bottom = 1;

        int hour() {
            return hour;
        }

        long top() {
            return top;
        }

        long bottom() {
            return bottom;
        }

        /** Takes a station's excesses in all hours that have one. */
        void compare(Chart chart, int station) {
            count = 0;
            for (int h = 0; h < HOURS; h++) {
                chart.readLevels(h);
                int excess = chart.excess(station);
                if (excess != Chart.NOT_COMPARED) {
                    hours[count] = h;
                    excesses[count] = excess;
                    count++;
                }
            }
        }

        /** Whether there is such an hour among those compared; then hour, top and bottom tell of it. */
        boolean search() {
            long after = 0;
            for (int k = 0; k < count; k++) {
                after += excesses[k];
            }
            long before = 0;
            boolean found = false;
            for (int k = 0; k < count; k++) {
                if (k >= 2 && count - k >= 2) {
                    take(found, hours[k], after * k - before * (count - k), (long) k * (count - k));
                    found = true;
                }
                before += excesses[k];
                after -= excesses[k];
            }
            return found;
        }

        /** Keeps a change, if it is the first or greater than the one kept: the first of equals stays. */
        private void take(boolean found, int newHour, long newTop, long newBottom) {
            if (!found || Math.abs(newTop) * bottom > Math.abs(top) * newBottom) {
                hour = newHour;
                top = newTop;
                bottom = newBottom;
            }
        }
    }
}
