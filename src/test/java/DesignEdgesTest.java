/** Bounds of WORST, the better CLOCK, BEST MARK, MENDED (promises 19 to 22), sentence by sentence. */
public final class DesignEdgesTest {
    private static final int NONE = DroppingBalls.NONE;
    private static final int UNKNOWN = DroppingBalls.UNKNOWN;
    private static final int OUTSIDE = DroppingBalls.OUTSIDE;
    /** Each BALL drops on THE TRUE TICK of 48 TICKS of DAYLIGHT. */
    private static final String EXACT = "10x10h10=10x99;s10;m9,17,25,33,41,49";
    private static final String STEADY = "10x10h10=10x99;s10;m8,16,24,32,40,48";
    private static final String TWELVE = Check.marks(12, 1);

    private DesignEdgesTest() {
    }

    public static void main(String[] args) {
        worstOfAll();
        worstOfFourSeasons();
        theFirstByWhichItIs();
        worstRefusals();
        betterOfTwo();
        leastAndGreatestMarks();
        marksAsTheyRise();
        marksWithoutSiphon();
        marksOneByOne();
        hours();
        mendedDays();
        mendedAboveT();
        mendedUntilDay60();
        mendedVessels();
        mendedRefusals();
        Check.end();
    }

    // ---- WORST

    private static void worstIs(String name, DroppingBalls x, int size, int season, int ball) {
        Check.due("size, " + name, x.worst(0, 0), size);
        Check.due("SEASON, " + name, x.worst(0, 1), season);
        Check.due("BALL, " + name, x.worst(0, 2), ball);
    }

    private static void worstOfAll() {
        Check.by("over all SEASONS and BALLS the greatest size of ERROR");
        for (int s = 0; s < 4; s++) {
            DroppingBalls x = Check.with(EXACT);
            worstIs("nothing is off", x, 0, 0, 0);
            x.season(s, 1, 47);
            worstIs("season " + s + " with one TICK less", x, 1, s, 0);
            x.season(s, 1, 72);
            worstIs("season " + s + " with the greatest DAYLIGHT", x, 24, s, 5);
            x.season(s, 1, 24);
            worstIs("season " + s + " with the least DAYLIGHT", x, 24, s, 5);
            x.season(s, 0, 50);
            worstIs("season " + s + " with the least WARMTH", x, 96 - 24, s, 5);
        }
        for (int ball = 0; ball < 6; ball++) {
            int[] marks = {9, 17, 25, 33, 41, 49};
            marks[ball] += 2;
            StringBuilder text = new StringBuilder("10x10h10=10x99;s10;m");
            for (int i = 0; i < 6; i++) {
                text.append(i > 0 ? "," : "").append(marks[i]);
            }
            worstIs("BALL " + ball + " two late", Check.with(text.toString()), 2, 0, ball);
        }
        DroppingBalls never = Check.with("1x1h1=1x1;s0;m" + TWELVE);
        never.season(3, 1, 24);
        worstIs("the greatest there is", never, 94, 3, 0);
    }

    /** No other SEASON than the four counts, and nothing is left of a WORST told ahead. */
    private static void worstOfFourSeasons() {
        DroppingBalls x = Check.withMarks("8,15,22,29,36,43");
        worstIs("by a DAYLIGHT of 48", x, 6, 0, 5);
        for (int s = 0; s < 3; s++) {
            x.season(s, 1, 42);
            worstIs("by a DAYLIGHT of 42 up to SEASON " + s, x, 6, s + 1, 5);
        }
        x.season(3, 1, 42);
        worstIs("by a DAYLIGHT of 42 in all", x, 0, 0, 0);
    }

    private static void theFirstByWhichItIs() {
        Check.by("1 the SEASON, 2 the BALL by which it is (the first)");
        worstIs("all BALLS in all SEASONS one early", Check.with(STEADY), 1, 0, 0);
        DroppingBalls x = Check.withMarks("9,19,25,35,41,49");
        worstIs("of BALLS 1 and 3", x, 2, 0, 1);
        DroppingBalls y = Check.with(EXACT);
        y.season(3, 1, 60);
        y.season(1, 1, 36);
        worstIs("of SEASONS 1 and 3, late and early", y, 12, 1, 5);
        y.season(2, 1, 61);
        worstIs("SEASON 2 is worse", y, 13, 2, 5);
    }

    private static void worstRefusals() {
        Check.by("WORST of a CLOCK, without a FAULT: what = 0 its size, 1 the SEASON, 2 the BALL by which it is (the first). UNKNOWN; OUTSIDE");
        DroppingBalls x = Check.with(EXACT);
        int[] outside = {-2, -1, 3, 4, Integer.MIN_VALUE, Integer.MAX_VALUE};
        for (int what : outside) {
            Check.due("worst(0, " + what + ")", x.worst(0, what), OUTSIDE);
            Check.due("worst(1, " + what + ")", x.worst(1, what), UNKNOWN);
            Check.due("worst(-1, " + what + ")", x.worst(-1, what), UNKNOWN);
        }
        x.faulty(1, 0, 20, 0);
        Check.due("without a FAULT", x.worst(0, 0), 0);
    }

    private static void betterOfTwo() {
        Check.by("Which of two CLOCKS has the lesser WORST (of like ones the first told here)");
        DroppingBalls x = Check.with(STEADY);
        Check.clock(x, EXACT);
        Check.clock(x, STEADY);
        Check.clock(x, "1x1h1=1x1;s0;m1");
        int[] worst = {1, 0, 1, 48};
        for (int first = -1; first <= 4; first++) {
            for (int second = -1; second <= 4; second++) {
                boolean known = first >= 0 && first <= 3 && second >= 0 && second <= 3;
                int want = !known ? UNKNOWN : worst[second] < worst[first] ? second : first;
                Check.due("better(" + first + ", " + second + ")", x.better(first, second), want);
            }
        }
        DroppingBalls none = new DroppingBalls();
        Check.due("of no CLOCKS", none.better(0, 0), UNKNOWN);
    }

    // ---- BEST MARK

    /** One HOUR, by a DAYLIGHT of so many TICKS: THE TRUE TICK is that one. */
    private static int markOn(String vesselsAndCylinder, int daylight) {
        DroppingBalls x = Check.with(vesselsAndCylinder + ";m1");
        x.season(0, 1, daylight);
        return x.mark(0, 0, 0);
    }

    private static void leastAndGreatestMarks() {
        Check.by("the least MARK (1 to 99), all else as it is, by which its BALL would drop on THE TRUE TICK", "NONE: there is none");
        // Four drops a TICK: 96 behind TICK 23, 100 behind TICK 24.
        Check.due("1: ahead of it 0", markOn("30x10h4=99x99;s10", 24), 1);
        Check.due("1: by one drop", markOn("30x10h4=97x99;s10", 24), 1);
        Check.due("none: ahead of it 1", markOn("30x10h4=96x99;s10", 24), NONE);
        // Ten drops a TICK: behind TICK t LEVEL is 10 (t + 1) by AREA.
        Check.due("99: ahead of it 98", markOn("10x10h10=5x99;s10", 49), 99);
        Check.due("none: ahead of it 100", markOn("10x10h10=5x99;s10", 50), NONE);
        Check.due("97: ahead of it 96", markOn("10x10h10=5x99;s10", 48), 97);
        Check.due("none: LEVEL does not rise", markOn("10x10h10=20x99;s10", 48), NONE);
        Check.due("LEVEL rises on the next TICK", markOn("10x10h10=20x99;s10", 49), 25);
        Check.due("none: nothing comes", markOn("1x1h1=1x1;s0", 24), NONE);
        // Thirty a TICK: LEVEL goes from 3t to 3t + 3.
        Check.due("the least of three", markOn("30x10h30=10x99;s30", 32), 97);
        Check.due("none of 100 to 102", markOn("30x10h30=10x99;s30", 33), NONE);
        // Twenty-eight a TICK by an AREA of 8: from 98 to 101 on TICK 28.
        Check.due("99 of 99 to 101", markOn("30x10h28=8x99;s60", 28), 99);
    }

    private static void marksAsTheyRise() {
        for (int daylight = 24; daylight <= 72; daylight++) {
            int ahead = 10 * daylight / 7;
            int behind = 10 * (daylight + 1) / 7;
            int want = behind > ahead && ahead + 1 <= 99 ? ahead + 1 : NONE;
            Check.due("by an AREA of 7 on TICK " + daylight, markOn("10x10h10=7x99;s10", daylight), want);
            int slow = 10 * daylight / 13;
            Check.due("by an AREA of 13 on TICK " + daylight, markOn("10x10h10=13x99;s10", daylight),
                    10 * (daylight + 1) / 13 > slow ? slow + 1 : NONE);
        }
    }

    private static void marksWithoutSiphon() {
        Check.by("(BALLS are looked at one by one for this, without SIPHON)");
        for (int height = 1; height <= 99; height += 7) {
            Check.due("by a HEIGHT of " + height, markOn("10x10h10=10x" + height + ";s10", 48), 49);
        }
    }

    private static void marksOneByOne() {
        DroppingBalls x = Check.withMarks("94,95,96,97,98,99");
        for (int hour = 0; hour < 6; hour++) {
            Check.due("whatever the MARKS are, HOUR " + hour, x.mark(0, 0, hour), 8 * hour + 9);
        }
        DroppingBalls y = Check.with("10x10h10=99x99;s10;m" + TWELVE);
        y.season(2, 1, 24);
        // THE TRUE TICKS are 2, 4, ..., 24; LEVEL comes to 1 on TICK 9, to 2 on 19.
        for (int hour = 0; hour < 12; hour++) {
            Check.due("HOUR " + hour + " of twelve", y.mark(0, 2, hour), NONE);
        }
        y.season(2, 1, 56);
        // 4, 9, 14, 18, ...: the second HOUR's is 9.
        Check.due("the least MARK", y.mark(0, 2, 1), 1);
        y.faulty(1, 0, 20, 0);
        Check.due("without a FAULT", y.mark(0, 2, 1), 1);
    }

    private static void hours() {
        Check.by("UNKNOWN: clock, season, hour");
        DroppingBalls x = Check.with(EXACT);
        for (int hour = -3; hour <= 14; hour++) {
            Check.due("HOUR " + hour, x.mark(0, 0, hour), hour < 0 || hour > 5 ? UNKNOWN : 8 * hour + 9);
        }
        int[][] unknown = {{-1, 0, 0}, {1, 0, 0}, {0, -1, 0}, {0, 4, 0}, {0, 0, Integer.MIN_VALUE}, {0, 0, Integer.MAX_VALUE}};
        for (int[] u : unknown) {
            Check.due("mark", x.mark(u[0], u[1], u[2]), UNKNOWN);
        }
        Check.due("the last SEASON", x.mark(0, 3, 5), 49);
    }

    // ---- MENDED

    private static void mendedDays() {
        Check.by("each w DAYS (1 to 30; DAY d has d by w more, rounded down) the first DAY (0 to 60)");
        DroppingBalls x = Check.with(STEADY);
        for (int w = -2; w <= 33; w++) {
            // With three more HOLE the second BALL is two early.
            int want = w < 1 || w > 30 ? OUTSIDE : 3 * w <= 60 ? 3 * w : NONE;
            Check.due("each " + w + " DAYS", x.mended(0, 0, 0, w, 1), want);
        }
        for (int w = 1; w <= 30; w++) {
            Check.due("on DAY 0, each " + w + " DAYS", x.mended(0, 0, 0, w, 0), 0);
        }
    }

    private static void mendedAboveT() {
        Check.by("some size of ERROR in a SEASON is above t");
        DroppingBalls x = Check.withMarks("1");
        x.season(1, 1, 72);
        for (int t = -3; t <= 99; t++) {
            int want = t < 0 || t > 96 ? OUTSIDE : t < 48 ? 0 : NONE;
            Check.due("48 above " + t, x.mended(0, 0, 0, 1, t), want);
        }
        Check.due("72 above 71", x.mended(0, 1, 0, 1, 71), 0);
        Check.due("72 above 72", x.mended(0, 1, 0, 1, 72), NONE);
        DroppingBalls last = Check.withMarks("96");
        last.season(0, 1, 24);
        Check.due("71 above 70, on TICK 95", last.mended(0, 0, 0, 30, 70), 0);
        Check.due("71 above 71, on TICK 95", last.mended(0, 0, 0, 30, 71), NONE);
        DroppingBalls never = Check.with("1x1h1=1x1;s0;m" + TWELVE);
        never.season(0, 1, 24);
        Check.due("94 above 93", never.mended(0, 0, 0, 30, 93), 0);
        Check.due("94 above 94, until its HOLE is 10", never.mended(0, 0, 0, 30, 94), NONE);
    }

    /**
     * The BALL needs 100 drops, HOLE gives as many on TICK 0 and no fewer on TICK 1: with 40 HOLE it
     * drops on TICK 2, with 50 on TICK 1, with 100 (on DAY 60) on TICK 0. THE TRUE TICK is 24.
     */
    private static void mendedUntilDay60() {
        Check.by("the first DAY (0 to 60) on which some size of ERROR in a SEASON is above t", "NONE: on no DAY of 0 to 60");
        DroppingBalls x = Check.with("30x10h40=50x99;s60;m2");
        Check.clock(x, "30x10h39=50x99;s60;m2");
        x.season(0, 1, 24);
        int[][] want = {{0, 1, 21, 0}, {0, 1, 22, 10}, {0, 6, 22, 60}, {0, 7, 22, NONE}, {0, 1, 23, 60}, {0, 2, 23, NONE},
            {0, 1, 24, NONE}, {1, 1, 21, 0}, {1, 1, 22, 11}, {1, 5, 22, 55}, {1, 6, 22, NONE}, {1, 1, 23, NONE}};
        for (int[] w : want) {
            Check.due("CLOCK " + w[0] + ", each " + w[1] + " DAYS, above " + w[2], x.mended(w[0], 0, 0, w[1], w[2]), w[3]);
        }
    }

    private static void mendedVessels() {
        Check.by("WEAR of 1 more HOLE of VESSEL v");
        String vessel = "10x10h10";
        // The last VESSEL gives 11 and 9 by turns; the one behind such a one runs over, and gives less.
        int[][] want = {{3, NONE, NONE}, {1, 3, NONE}, {1, 1, 3}};
        StringBuilder vessels = new StringBuilder(vessel);
        for (int many = 1; many <= 3; many++) {
            DroppingBalls x = Check.with(vessels + EXACT.substring(vessel.length()));
            for (int v = -3; v <= 5; v++) {
                Check.due("VESSEL " + v + " of " + many, x.mended(0, 0, v, 1, 0), v < 0 || v > 2 ? OUTSIDE : want[many - 1][v]);
            }
            Check.due("the CLOCK is as it was", x.told(0, 12), 10);
            vessels.append(">").append(vessel);
        }
    }

    private static void mendedRefusals() {
        Check.by("UNKNOWN: clock, season; OUTSIDE: vessel (0 to 2), days, t (0 to 96)");
        DroppingBalls x = Check.with(EXACT);
        int[][] unknown = {{-1, 0}, {1, 0}, {0, -1}, {0, 4}, {Integer.MAX_VALUE, 0}, {0, Integer.MIN_VALUE}};
        for (int[] u : unknown) {
            Check.due("mended", x.mended(u[0], u[1], 0, 1, 0), UNKNOWN);
            Check.due("mended, all wrong", x.mended(u[0], u[1], 3, 0, 97), UNKNOWN);
        }
        int[] extremes = {Integer.MIN_VALUE, Integer.MAX_VALUE};
        for (int v : extremes) {
            Check.due("vessel", x.mended(0, 0, v, 1, 0), OUTSIDE);
            Check.due("days", x.mended(0, 0, 0, v, 0), OUTSIDE);
            Check.due("t", x.mended(0, 0, 0, 1, v), OUTSIDE);
        }
        Check.due("the last that fit", x.mended(0, 3, 2, 30, 96), NONE);
    }
}
