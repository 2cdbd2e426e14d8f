/** Promises 13 to 19: each sentence that names an edge, with a test of its own. */
public final class BenchEdgesTest {
    private static final int[] NO_PART = {-1, 2, Due.MIN, Due.MAX};
    private static final int MOST_UP = 1000000;

    private BenchEdgesTest() { }

    public static void main(String[] args) {
        benchesAtTheEnds();
        benchesPastTheEnds();
        benchesAnewWithoutDifferences();
        benchNumbersByCount();
        differenceAtTheEnds();
        differencePastTheEnds();
        differenceUnknown();
        differencesTwelveAtMost();
        differencesBetweenTheSameTwo();
        dropTheLatest();
        dropNone();
        dropAndTellAgain();
        heightOutside();
        heightOfTheSea();
        heightsNotJoined();
        heightsJoinedByWayOfOthers();
        heightsThatJustFit();
        heightsByWeights();
        heightsInLowestTerms();
        heightsOfTheGreatestNumbers();
        heightsAfterChanges();
        offOutside();
        offUnknown();
        offNotJoined();
        offNothing();
        offByDirection();
        worstOfNone();
        worstNotJoined();
        worstOfOne();
        worstOfSeveralTheFirst();
        worstBySize();
        worstAfterADrop();
        closingUnknown();
        closingWithoutOne();
        closingEitherWayRound();
        closingByTheFirst();
        closingNotJoinedToTheSea();
        closingOfTheGreatest();
        Due.finish();
    }

    private static void due(int promise, String call, long got, long want) {
        Due.due(promise, call, got, want);
    }

    // ---- 13: benches

    /** "n 2 to 6; 3 at first", "how many there were". */
    private static void benchesAtTheEnds() {
        GlassRoom x = new GlassRoom();
        due(13, "benches(2)", x.benches(2), 3);
        due(13, "benches(6)", x.benches(6), 2);
        due(13, "benches(6) again", x.benches(6), 6);
        due(13, "benches(3)", x.benches(3), 6);
        due(13, "benches(4)", x.benches(4), 3);
        due(13, "benches(5)", x.benches(5), 4);
        due(27, "told(2)", x.told(2), 5);
    }

    /** "OUTSIDE": one past either end; benches and differences stay. */
    private static void benchesPastTheEnds() {
        GlassRoom x = new GlassRoom();
        x.difference(0, 1, 5, 1);
        for (int n : new int[] {1, 7, 0, -1, Due.MIN, Due.MAX}) {
            due(13, "benches(" + n + ")", x.benches(n), Due.OUTSIDE);
            due(27, "told(2) behind it", x.told(2), 3);
            due(27, "told(3) behind it", x.told(3), 1);
        }
        x.difference(0, 2, 6, 1);
        due(16, "heights stay", x.height(1, 0), 5);
    }

    /** "BENCHES anew, no DIFFERENCES": also if there are as many as before. */
    private static void benchesAnewWithoutDifferences() {
        GlassRoom x = new GlassRoom();
        x.difference(0, 1, 5, 1);
        x.difference(0, 2, 6, 1);
        due(16, "height ahead of it", x.height(2, 0), 6);
        due(13, "benches(3)", x.benches(3), 3);
        due(27, "told(3)", x.told(3), 0);
        due(16, "height behind it", x.height(2, 0), Due.LOST - 5);
        due(17, "off behind it", x.off(0, 0), Due.LOST - 1);
        due(18, "worst behind it", x.worst(), Due.NONE);
        due(15, "drop behind it", x.drop(), Due.UNKNOWN);
        due(14, "the next difference is 0", x.difference(0, 1, 7, 1), 0);
    }

    /** "BENCHES 0 to n - 1", for every n. */
    private static void benchNumbersByCount() {
        GlassRoom x = new GlassRoom();
        for (int n = 2; n <= 6; n++) {
            x.benches(n);
            due(16, "the last of " + n, x.height(n - 1, 0), Due.LOST - 5);
            due(16, "one more than " + n, x.height(n, 0), Due.LOST - 1);
            due(14, "to the last of " + n, x.difference(0, n - 1, 1, 1), 0);
            due(14, "to one more than " + n, x.difference(0, n, 1, 1), Due.UNKNOWN);
            due(14, "from one more than " + n, x.difference(n, 0, 1, 1), Due.UNKNOWN);
        }
    }

    // ---- 14: difference

    /** "so many centimetres up (-1000000 to 1000000), of a WEIGHT (1 to 9)": the last that are taken. */
    private static void differenceAtTheEnds() {
        GlassRoom x = new GlassRoom();
        due(14, "most up, least weight", x.difference(0, 1, MOST_UP, 1), 0);
        due(14, "most down, most weight", x.difference(1, 2, -MOST_UP, 9), 1);
        due(14, "nothing up", x.difference(2, 0, 0, 5), 2);
    }

    /** The first that are refused. */
    private static void differencePastTheEnds() {
        GlassRoom x = new GlassRoom();
        for (int d : new int[] {-MOST_UP - 1, MOST_UP + 1, Due.MIN, Due.MAX}) {
            due(14, "difference(0, 1, " + d + ", 1)", x.difference(0, 1, d, 1), Due.OUTSIDE);
        }
        for (int w : new int[] {0, 10, -1, Due.MIN, Due.MAX}) {
            due(14, "difference(0, 1, 1, " + w + ")", x.difference(0, 1, 1, w), Due.OUTSIDE);
        }
        due(27, "told(3) behind refusals", x.told(3), 0);
        due(14, "the first one's number", x.difference(0, 1, 1, 1), 0);
    }

    /** "UNKNOWN: also they are one." */
    private static void differenceUnknown() {
        GlassRoom x = new GlassRoom();
        for (int b = 0; b < 3; b++) {
            due(14, "difference(" + b + ", " + b + ", ..)", x.difference(b, b, 1, 1), Due.UNKNOWN);
        }
        for (int b : new int[] {-1, 3, 6, Due.MIN, Due.MAX}) {
            due(14, "difference(0, " + b + ", ..)", x.difference(0, b, 1, 1), Due.UNKNOWN);
            due(14, "difference(" + b + ", 0, ..)", x.difference(b, 0, 1, 1), Due.UNKNOWN);
            due(14, "difference(" + b + ", " + b + ", ..)", x.difference(b, b, 1, 1), Due.UNKNOWN);
        }
        due(27, "told(3) behind refusals", x.told(3), 0);
    }

    /** "DIFFERENCES, 12 at most, numbered from 0 on": twelve, and one more. */
    private static void differencesTwelveAtMost() {
        GlassRoom x = new GlassRoom();
        for (int k = 0; k < 12; k++) {
            due(27, "told(3)", x.told(3), k);
            due(14, "difference " + k, x.difference(k % 3, (k + 1) % 3, k, 1 + k % 9), k);
        }
        long before = x.height(1, 0);
        due(14, "difference 12", x.difference(0, 1, 5000, 9), Due.FULL);
        due(27, "told(3)", x.told(3), 12);
        due(16, "heights stay", x.height(1, 0), before);
        due(17, "off(11, 1) is there", x.off(11, 1) > 0 ? 1 : 0, 1);
        due(17, "off(12, 0) is not", x.off(12, 0), Due.LOST - 1);
        due(15, "drop()", x.drop(), 11);
        due(14, "difference 11 again", x.difference(0, 1, 5000, 9), 11);
        due(14, "and no more", x.difference(0, 1, 5000, 9), Due.FULL);
    }

    private static void differencesBetweenTheSameTwo() {
        GlassRoom x = new GlassRoom();
        x.benches(2);
        for (int k = 0; k < 12; k++) {
            due(14, "the same two, " + k, x.difference(k % 2, 1 - k % 2, k % 2 == 0 ? 7 : -7, 9), k);
        }
        due(16, "height", x.height(1, 0), 7);
        due(16, "its lower number", x.height(1, 1), 1);
    }

    // ---- 15: drop

    /** "The latest DIFFERENCE goes: how many are left." */
    private static void dropTheLatest() {
        GlassRoom x = new GlassRoom();
        x.difference(0, 1, 10, 1);
        x.difference(0, 2, 20, 1);
        x.difference(0, 1, 30, 1);
        due(16, "with the latest", x.height(1, 0), 20);
        due(15, "drop()", x.drop(), 2);
        due(16, "without it", x.height(1, 0), 10);
        due(16, "the one ahead of it stays", x.height(2, 0), 20);
        due(17, "its number is free", x.off(2, 0), Due.LOST - 1);
        due(15, "drop()", x.drop(), 1);
        due(16, "no longer joined", x.height(1, 0), Due.LOST - 5);
        due(15, "drop()", x.drop(), 0);
    }

    /** "UNKNOWN: there is none": at first, once all are gone, and behind benches anew. */
    private static void dropNone() {
        GlassRoom x = new GlassRoom();
        due(15, "drop() at first", x.drop(), Due.UNKNOWN);
        x.difference(0, 1, 10, 1);
        due(15, "drop()", x.drop(), 0);
        due(15, "drop(), all gone", x.drop(), Due.UNKNOWN);
        due(15, "drop(), all gone", x.drop(), Due.UNKNOWN);
        due(27, "told(3)", x.told(3), 0);
        x.difference(0, 1, 10, 1);
        x.benches(3);
        due(15, "drop() behind benches anew", x.drop(), Due.UNKNOWN);
    }

    private static void dropAndTellAgain() {
        GlassRoom x = new GlassRoom();
        x.benches(2);
        x.difference(0, 1, 10, 1);
        for (int k = 0; k < 30; k++) {
            due(14, "difference", x.difference(0, 1, 10 + 2 * k, 1), 1);
            due(16, "height", x.height(1, 0), 10 + k);
            due(15, "drop()", x.drop(), 1);
        }
    }

    // ---- 16: height

    private static void height(GlassRoom x, int bench, long upper, long lower) {
        due(16, "height(" + bench + ", 0)", x.height(bench, 0), upper);
        due(16, "height(" + bench + ", 1)", x.height(bench, 1), lower);
    }

    private static void off(GlassRoom x, int i, long upper, long lower) {
        due(17, "off(" + i + ", 0)", x.off(i, 0), upper);
        due(17, "off(" + i + ", 1)", x.off(i, 1), lower);
    }

    private static void heightOutside() {
        GlassRoom x = new GlassRoom();
        x.difference(0, 1, 1, 1);
        x.difference(0, 2, 1, 1);
        for (int part : NO_PART) {
            due(16, "height(1, " + part + ")", x.height(1, part), Due.LOST - 2);
        }
        for (int b : new int[] {-1, 3, 6, Due.MIN, Due.MAX}) {
            due(16, "height(" + b + ", 0)", x.height(b, 0), Due.LOST - 1);
        }
    }

    /** "0 being the SEA, height 0": however the others pull; and a fraction whose lower number is 1. */
    private static void heightOfTheSea() {
        GlassRoom x = new GlassRoom();
        x.benches(2);
        x.difference(0, 1, 3, 1);
        x.difference(1, 0, 4, 2);
        height(x, 0, 0, 1);
        height(x, 1, -5, 3);
    }

    /** "They are told, if all BENCHES are joined to the SEA": one that is not is enough, also for the SEA itself. */
    private static void heightsNotJoined() {
        GlassRoom x = new GlassRoom();
        height(x, 0, Due.LOST - 5, Due.LOST - 5);
        x.benches(6);
        x.difference(0, 1, 1, 1);
        x.difference(2, 3, 1, 1);
        x.difference(3, 4, 1, 1);
        x.difference(4, 2, 1, 1);
        x.difference(4, 5, 1, 1);
        x.difference(5, 2, 1, 1);
        for (int b = 0; b < 6; b++) {
            height(x, b, Due.LOST - 5, Due.LOST - 5);
        }
        x.difference(5, 1, 0, 1);
        height(x, 0, 0, 1);
        x.drop();
        height(x, 0, Due.LOST - 5, Due.LOST - 5);
        x.benches(6);
        for (int k = 1; k < 5; k++) {
            x.difference(0, k, k, 9);
            height(x, k, Due.LOST - 5, Due.LOST - 5);
        }
        x.difference(5, 0, -5, 9);
        height(x, 4, 4, 1);
        height(x, 5, 5, 1);
    }

    /** Joined by way of others, told in any order and either way round. */
    private static void heightsJoinedByWayOfOthers() {
        GlassRoom x = new GlassRoom();
        x.benches(6);
        int[][] chain = {{4, 5, 1}, {2, 3, 10}, {4, 3, -100}, {1, 2, 1000}, {1, 0, -10000}};
        for (int[] c : chain) {
            due(16, "not joined yet", x.height(5, 0), Due.LOST - 5);
            x.difference(c[0], c[1], c[2], 3);
        }
        height(x, 1, 10000, 1);
        height(x, 2, 11000, 1);
        height(x, 3, 11010, 1);
        height(x, 4, 11110, 1);
        height(x, 5, 11111, 1);
    }

    /** As many differences as there are benches but the sea: nothing is off. */
    private static void heightsThatJustFit() {
        GlassRoom x = new GlassRoom();
        x.benches(2);
        x.difference(0, 1, -7, 9);
        height(x, 1, -7, 1);
        off(x, 0, 0, 1);
        x.benches(2);
        x.difference(1, 0, 0, 1);
        height(x, 1, 0, 1);
        off(x, 0, 0, 1);
    }

    /** "the sum of WEIGHT times the square of what a DIFFERENCE is OFF is least": weights at both ends. */
    private static void heightsByWeights() {
        GlassRoom x = new GlassRoom();
        x.benches(2);
        x.difference(0, 1, 0, 1);
        x.difference(0, 1, 10, 9);
        height(x, 1, 9, 1);
        off(x, 0, 9, 1);
        off(x, 1, -1, 1);
        x.benches(2);
        x.difference(0, 1, 0, 9);
        x.difference(0, 1, 10, 1);
        height(x, 1, 1, 1);
        x.benches(3);
        x.difference(0, 1, 10, 1);
        x.difference(1, 2, 10, 2);
        x.difference(2, 0, 5, 3);
        // 25 too much go round: shared by 1, 1 by 2 and 1 by 3, that is by 6, 3 and 2 of 11.
        off(x, 0, -150, 11);
        off(x, 1, -75, 11);
        off(x, 2, -50, 11);
        height(x, 1, -40, 11);
        height(x, 2, -5, 11);
    }

    /** "Fractions are in lowest terms, the lower number above 0." */
    private static void heightsInLowestTerms() {
        GlassRoom x = new GlassRoom();
        x.benches(2);
        x.difference(0, 1, -1, 2);
        x.difference(0, 1, -2, 2);
        height(x, 1, -3, 2);
        x.difference(0, 1, -3, 2);
        height(x, 1, -2, 1);
        x.difference(1, 0, -6, 6);
        height(x, 1, 2, 1);
        x.benches(2);
        x.difference(0, 1, 5, 4);
        x.difference(0, 1, -5, 4);
        height(x, 1, 0, 1);
        off(x, 0, -5, 1);
        off(x, 1, 5, 1);
    }

    /** All that there may be at most, of the most weight, up and down as far as may be. */
    private static void heightsOfTheGreatestNumbers() {
        GlassRoom x = new GlassRoom();
        x.benches(6);
        for (int k = 0; k < 5; k++) {
            x.difference(k, k + 1, MOST_UP, 9);
        }
        height(x, 5, 5L * MOST_UP, 1);
        for (int k = 0; k < 7; k++) {
            x.difference(5, 0, MOST_UP, 9);
        }
        // Six million too much go round; the seven side by side take a 36th of it: 1 by 7 of 36 by 7.
        off(x, 11, -500000, 3);
        off(x, 0, -3500000, 3);
        height(x, 5, -2500000, 3);
        height(x, 1, -500000, 3);
        x.benches(6);
        for (int k = 0; k < 5; k++) {
            x.difference(k + 1, k, MOST_UP, 1);
        }
        height(x, 5, -5L * MOST_UP, 1);
        for (int k = 0; k < 7; k++) {
            x.difference(0, 5, MOST_UP, 9);
        }
        // The chain is as 1 by 5, the seven as 63: of 6000000 too much they take 1 by 316.
        height(x, 5, 77500000, 79);
        off(x, 5, -1500000, 79);
    }

    /** What was found must not outlive a difference, a drop or benches anew. */
    private static void heightsAfterChanges() {
        GlassRoom x = new GlassRoom();
        x.benches(2);
        x.difference(0, 1, 10, 1);
        height(x, 1, 10, 1);
        x.difference(0, 1, 13, 1);
        height(x, 1, 23, 2);
        off(x, 1, -3, 2);
        x.drop();
        height(x, 1, 10, 1);
        x.benches(2);
        height(x, 1, Due.LOST - 5, Due.LOST - 5);
        x.difference(0, 1, 99, 1);
        height(x, 1, 99, 1);
    }

    // ---- 17: off

    private static void offOutside() {
        GlassRoom x = new GlassRoom();
        x.difference(0, 1, 1, 1);
        x.difference(0, 2, 1, 1);
        for (int part : NO_PART) {
            due(17, "off(0, " + part + ")", x.off(0, part), Due.LOST - 2);
        }
    }

    /** "UNKNOWN (there is no such .. DIFFERENCE)". */
    private static void offUnknown() {
        GlassRoom x = new GlassRoom();
        due(17, "off(0, 0), none yet", x.off(0, 0), Due.LOST - 1);
        x.difference(0, 1, 1, 1);
        x.difference(0, 2, 1, 1);
        off(x, 1, 0, 1);
        for (int i : new int[] {-1, 2, 11, 12, Due.MIN, Due.MAX}) {
            due(17, "off(" + i + ", 0)", x.off(i, 0), Due.LOST - 1);
        }
    }

    /** "likewise": NO, if some bench is not joined, though the difference's own are. */
    private static void offNotJoined() {
        GlassRoom x = new GlassRoom();
        x.difference(0, 1, 1, 1);
        off(x, 0, Due.LOST - 5, Due.LOST - 5);
        x.difference(1, 2, 1, 1);
        off(x, 0, 0, 1);
        x.drop();
        off(x, 0, Due.LOST - 5, Due.LOST - 5);
    }

    private static void offNothing() {
        GlassRoom x = new GlassRoom();
        x.difference(0, 1, 10, 1);
        x.difference(1, 2, -4, 7);
        x.difference(0, 2, 6, 9);
        for (int i = 0; i < 3; i++) {
            off(x, i, 0, 1);
        }
    }

    /** "OFF is (height of the second, less that of the first) less the DIFFERENCE." */
    private static void offByDirection() {
        GlassRoom x = new GlassRoom();
        x.benches(2);
        x.difference(0, 1, 10, 1);
        x.difference(1, 0, -14, 1);
        height(x, 1, 12, 1);
        off(x, 0, 2, 1);
        off(x, 1, 2, 1);
        x.drop();
        x.difference(1, 0, -7, 1);
        off(x, 0, -3, 2);
        off(x, 1, -3, 2);
    }

    // ---- 18: worst

    /** "NONE: there are none": ahead of NO, though no bench is joined. */
    private static void worstOfNone() {
        GlassRoom x = new GlassRoom();
        due(18, "worst(), none", x.worst(), Due.NONE);
        x.difference(0, 1, 1, 1);
        x.drop();
        due(18, "worst(), all gone", x.worst(), Due.NONE);
    }

    /** "NO, likewise." */
    private static void worstNotJoined() {
        GlassRoom x = new GlassRoom();
        x.difference(1, 2, 1, 1);
        x.difference(1, 2, 3, 1);
        due(18, "worst(), not joined", x.worst(), Due.NO);
        x.difference(0, 2, 3, 1);
        due(18, "worst(), joined", x.worst(), 0);
    }

    private static void worstOfOne() {
        GlassRoom x = new GlassRoom();
        x.benches(2);
        x.difference(0, 1, 1, 1);
        due(18, "worst() of one", x.worst(), 0);
    }

    /** "of several the first": alike in size with unlike signs, too. */
    private static void worstOfSeveralTheFirst() {
        GlassRoom x = new GlassRoom();
        x.benches(2);
        x.difference(0, 1, 5, 1);
        x.difference(0, 1, 4, 1);
        x.difference(0, 1, 6, 1);
        due(18, "nothing, 1 and -1", x.worst(), 1);
        x.benches(2);
        x.difference(0, 1, 5, 1);
        x.difference(0, 1, 6, 1);
        x.difference(0, 1, 4, 1);
        due(18, "nothing, -1 and 1", x.worst(), 1);
        x.benches(2);
        for (int k = 0; k < 12; k++) {
            x.difference(0, 1, k % 2, 1);
        }
        due(18, "twelve, all by a half", x.worst(), 0);
        x.benches(2);
        for (int k = 0; k < 12; k++) {
            x.difference(0, 1, 5, 1);
        }
        due(18, "twelve that all fit", x.worst(), 0);
    }

    /** "the most OFF, by size": WEIGHT has no share in it. */
    private static void worstBySize() {
        GlassRoom x = new GlassRoom();
        x.benches(2);
        x.difference(0, 1, 0, 9);
        x.difference(0, 1, 10, 1);
        due(18, "the light one, below 0", x.worst(), 1);
        x.benches(2);
        x.difference(0, 1, 0, 9);
        x.difference(1, 0, 10, 1);
        due(18, "the light one the other way round", x.worst(), 1);
        x.benches(2);
        for (int k = 0; k < 11; k++) {
            x.difference(0, 1, 0, 1);
        }
        x.difference(0, 1, 12, 1);
        due(18, "the last of twelve", x.worst(), 11);
    }

    private static void worstAfterADrop() {
        GlassRoom x = new GlassRoom();
        x.benches(2);
        x.difference(0, 1, 0, 1);
        x.difference(0, 1, 1, 2);
        x.difference(0, 1, 100, 1);
        due(18, "worst()", x.worst(), 2);
        x.drop();
        due(18, "worst() behind a drop", x.worst(), 0);
    }

    // ---- 19: closing

    /** "UNKNOWN: also two are one": each two of the three, and all of them. */
    private static void closingUnknown() {
        GlassRoom x = new GlassRoom();
        x.difference(0, 1, 1, 1);
        x.difference(1, 2, 1, 1);
        x.difference(2, 0, 1, 1);
        int[][] cases = {{0, 0, 1}, {0, 1, 0}, {1, 0, 0}, {2, 2, 2}, {-1, 1, 2}, {0, -1, 2}, {0, 1, -1}, {3, 1, 2},
            {0, 3, 2}, {0, 1, 3}, {3, 3, 3}, {Due.MIN, 1, 2}, {0, Due.MAX, 2}, {0, 1, Due.MAX}};
        for (int[] c : cases) {
            due(19, "closing(" + c[0] + ", " + c[1] + ", " + c[2] + ")", x.closing(c[0], c[1], c[2]), Due.LOST - 1);
        }
        due(19, "closing(0, 1, 2)", x.closing(0, 1, 2), 3);
        x.benches(2);
        due(19, "with two benches there are no three", x.closing(0, 1, 2), Due.LOST - 1);
    }

    /** "NONE: one of the three has no DIFFERENCE": each of the three in turn. */
    private static void closingWithoutOne() {
        int[][] all = {{0, 1}, {1, 2}, {2, 0}};
        for (int left = 0; left < 3; left++) {
            GlassRoom x = new GlassRoom();
            due(19, "closing, none", x.closing(0, 1, 2), Due.LOST - 6);
            for (int k = 0; k < 3; k++) {
                if (k != left) {
                    x.difference(all[k][0], all[k][1], 1, 1);
                }
            }
            due(19, "closing without " + left, x.closing(0, 1, 2), Due.LOST - 6);
            due(19, "closing the other way round without " + left, x.closing(2, 1, 0), Due.LOST - 6);
            x.difference(all[left][1], all[left][0], 1, 1);
            due(19, "closing with all", x.closing(0, 1, 2), 1);
        }
    }

    /** "either way round: then less it": from all three benches, both ways. */
    private static void closingEitherWayRound() {
        GlassRoom x = new GlassRoom();
        x.difference(1, 0, 100, 1);
        x.difference(1, 2, 20, 1);
        x.difference(0, 2, 3, 1);
        int[][] on = {{0, 1, 2}, {1, 2, 0}, {2, 0, 1}};
        for (int[] c : on) {
            due(19, "on", x.closing(c[0], c[1], c[2]), -100 + 20 - 3);
            due(19, "back", x.closing(c[2], c[1], c[0]), 100 - 20 + 3);
        }
    }

    /** "the first DIFFERENCES between": the first either way round; once it goes, the next one. */
    private static void closingByTheFirst() {
        GlassRoom x = new GlassRoom();
        x.difference(1, 2, 20, 1);
        x.difference(2, 0, 3, 1);
        x.difference(1, 0, -100, 1);
        x.difference(0, 1, 7, 9);
        due(19, "the first, though the other way round", x.closing(0, 1, 2), 123);
        x.drop();
        x.drop();
        due(19, "none", x.closing(0, 1, 2), Due.LOST - 6);
        x.difference(0, 1, 7, 9);
        x.difference(1, 0, -100, 1);
        due(19, "the first now", x.closing(0, 1, 2), 30);
    }

    private static void closingNotJoinedToTheSea() {
        GlassRoom x = new GlassRoom();
        x.benches(6);
        x.difference(3, 4, 1, 1);
        x.difference(4, 5, 1, 1);
        x.difference(5, 3, 1, 1);
        due(19, "closing, not joined to the sea", x.closing(3, 4, 5), 3);
        due(16, "no heights", x.height(3, 0), Due.LOST - 5);
    }

    private static void closingOfTheGreatest() {
        GlassRoom x = new GlassRoom();
        x.difference(0, 1, MOST_UP, 1);
        x.difference(1, 2, MOST_UP, 1);
        x.difference(2, 0, MOST_UP, 1);
        due(19, "three times the most", x.closing(0, 1, 2), 3L * MOST_UP);
        due(19, "less it", x.closing(2, 1, 0), -3L * MOST_UP);
    }
}
