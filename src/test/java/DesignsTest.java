/** Promises 19 to 22: WORST, which is better, BEST MARK, MENDED. */
public final class DesignsTest {
    private static final String STEADY = "10x10h10=10x50;s10;m8,16,24,32,40,48";
    /** Each BALL drops on THE TRUE TICK of 48 TICKS of DAYLIGHT. */
    private static final String EXACT = "10x10h10=10x50;s10;m9,17,25,33,41,49";
    private static final int NONE = DroppingBalls.NONE;
    private static final int UNKNOWN = DroppingBalls.UNKNOWN;
    private static final int OUTSIDE = DroppingBalls.OUTSIDE;

    private DesignsTest() {
    }

    public static void main(String[] args) {
        promise19();
        promise20();
        promise21();
        promise21Levels();
        promise22();
        promise22LastDay();
        promise22FirstBall();
        promise22Refusals();
        Check.end();
    }

    private static void worstIs(DroppingBalls x, int size, int season, int ball) {
        Check.due("worst: size", x.worst(0, 0), size);
        Check.due("worst: season", x.worst(0, 1), season);
        Check.due("worst: ball", x.worst(0, 2), ball);
    }

    private static void promise19() {
        Check.by("WORST of a CLOCK, without a FAULT: what = 0 its size, 1 the SEASON, 2 the BALL by which it is (the first). UNKNOWN; OUTSIDE.");
        DroppingBalls x = Check.with(EXACT);
        worstIs(x, 0, 0, 0);
        x.season(2, 1, 72);
        worstIs(x, 24, 2, 5);
        x.season(3, 1, 72);
        worstIs(x, 24, 2, 5);
        x.season(1, 1, 24);
        worstIs(x, 24, 1, 5);
        x.season(3, 0, 50);
        x.season(3, 1, 24);
        worstIs(x, 96 - 24, 3, 5);
        worstIs(Check.with(STEADY), 1, 0, 0);
        x.faulty(1, 0, 20, 0);
        worstIs(x, 72, 3, 5);
        DroppingBalls y = Check.with("10x10h10=10x50;s10;m8,15,22,29,36,43");
        for (int s = 0; s < 4; s++) {
            y.season(s, 1, 42);
        }
        worstIs(y, 0, 0, 0);
        Check.due("worst: what -1", x.worst(0, -1), OUTSIDE);
        Check.due("worst: what 3", x.worst(0, 3), OUTSIDE);
        Check.due("worst: unknown first", x.worst(1, 3), UNKNOWN);
        Check.due("worst: clock -1", x.worst(-1, 0), UNKNOWN);
    }

    private static void promise20() {
        Check.by("Which of two CLOCKS has the lesser WORST (of like ones the first told here). UNKNOWN.");
        DroppingBalls x = Check.with(EXACT);
        Check.clock(x, STEADY);
        Check.clock(x, EXACT);
        Check.due("better: the first", x.better(0, 1), 0);
        Check.due("better: the second", x.better(1, 0), 0);
        Check.due("better: like ones", x.better(0, 2), 0);
        Check.due("better: like ones, turned", x.better(2, 0), 2);
        Check.due("better: itself", x.better(1, 1), 1);
        Check.due("better: unknown first", x.better(3, 0), UNKNOWN);
        Check.due("better: unknown second", x.better(0, -1), UNKNOWN);
        for (int s = 0; s < 4; s++) {
            x.season(s, 1, 42);
        }
        // TRUE TICKS 7, 14, ..., 42: EXACT is 6 late at the end, STEADY 5.
        Check.due("better: by the seasons", x.better(0, 1), 1);
    }

    private static void promise21() {
        Check.by("BEST MARK of an HOUR in a SEASON, without a FAULT; NONE: there is none. UNKNOWN: clock, season, hour.");
        DroppingBalls x = Check.with(EXACT);
        for (int hour = 0; hour < 6; hour++) {
            Check.due("mark: hour " + hour, x.mark(0, 0, hour), 8 * hour + 9);
        }
        x.season(1, 0, 50);
        Check.due("mark: no level is new there", x.mark(0, 1, 0), NONE);
        x.season(1, 1, 54);
        Check.due("mark: one is", x.mark(0, 1, 0), 5);
        Check.due("mark: hour 6", x.mark(0, 0, 6), UNKNOWN);
        Check.due("mark: hour -1", x.mark(0, 0, -1), UNKNOWN);
        Check.due("mark: season", x.mark(0, 4, 0), UNKNOWN);
        Check.due("mark: clock", x.mark(1, 0, 0), UNKNOWN);
        Check.due("mark: without siphon", Check.with("10x10h10=10x1;s10;m1").mark(0, 0, 0), 49);
    }

    private static void promise21Levels() {
        DroppingBalls x = Check.with("10x10h10=5x99;s10;m1");
        x.season(0, 1, 49);
        Check.due("mark: 99", x.mark(0, 0, 0), 99);
        x.season(0, 1, 50);
        Check.due("mark: above 99", x.mark(0, 0, 0), NONE);
        DroppingBalls y = Check.with("30x10h30=10x99;s30;m1");
        y.season(0, 1, 32);
        Check.due("mark: the least of three", y.mark(0, 0, 0), 97);
        y.season(0, 1, 33);
        Check.due("mark: just above 99", y.mark(0, 0, 0), NONE);
        Check.due("mark: an early hour", Check.with("10x10h10=1x50;s10;m1,2,3,4,5,6,7,8,9,10,11,12").mark(0, 0, 0), 41);
    }

    private static void promise22() {
        Check.by("MENDED; NONE: on no DAY of 0 to 60.");
        DroppingBalls x = Check.with(STEADY);
        Check.due("mended: day 0", x.mended(0, 0, 0, 1, 0), 0);
        // With three more HOLE the second BALL is two early.
        Check.due("mended: each day", x.mended(0, 0, 0, 1, 1), 3);
        Check.due("mended: each fifth day", x.mended(0, 0, 0, 5, 1), 15);
        Check.due("mended: on day 60", x.mended(0, 0, 0, 20, 1), 60);
        Check.due("mended: behind day 60", x.mended(0, 0, 0, 21, 1), NONE);
        Check.due("mended: each thirtieth day", x.mended(0, 0, 0, 30, 1), NONE);
        Check.due("mended: a vessel that it has not", x.mended(0, 0, 1, 1, 1), NONE);
        Check.due("mended: at once, whatever the vessel", x.mended(0, 0, 2, 1, 0), 0);
        Check.due("mended: nothing is above 96", x.mended(0, 0, 0, 1, 96), NONE);
        Check.due("mended: the clock is as it was", x.told(0, 12), 10);
        x.season(1, 1, 24);
        Check.due("mended: by the season", x.mended(0, 1, 0, 1, 22), 0);
    }

    /**
     * HOLE times 109 by 1000 drops come each TICK, of 220 that the BALL needs: 4 on day 0, 10 from
     * day 52 on (it drops on 21), 11 on day 61 (on 19); THE TRUE TICK is 38.
     */
    private static void promise22LastDay() {
        DroppingBalls x = Check.with("30x1h40=10x99;s60;m22");
        x.season(0, 0, 109);
        x.season(0, 1, 38);
        Check.due("mended: ahead of day 60", x.mended(0, 0, 0, 1, 16), 52);
        Check.due("mended: not on day 61", x.mended(0, 0, 0, 1, 17), NONE);
    }

    private static void promise22FirstBall() {
        DroppingBalls x = Check.with("10x10h10=10x50;s10;m1,17,25,33,41,49");
        Check.due("mended: the first ball alone is off", x.mended(0, 0, 0, 30, 7), 0);
        Check.due("mended: by so much", x.mended(0, 0, 0, 30, 8), NONE);
    }

    private static void promise22Refusals() {
        Check.by("UNKNOWN: clock, season; OUTSIDE: vessel (0 to 2), days, t (0 to 96).");
        DroppingBalls x = Check.with(STEADY);
        int[][] outside = {{-1, 1, 1}, {3, 1, 1}, {0, 0, 1}, {0, 31, 1}, {0, 1, -1}, {0, 1, 97},
            {0, Integer.MIN_VALUE, 1}};
        for (int[] o : outside) {
            Check.due("mended: outside", x.mended(0, 0, o[0], o[1], o[2]), OUTSIDE);
        }
        Check.due("mended: clock, unknown first", x.mended(1, 0, 3, 0, -1), UNKNOWN);
        Check.due("mended: season", x.mended(0, 4, 0, 1, 1), UNKNOWN);
    }
}
