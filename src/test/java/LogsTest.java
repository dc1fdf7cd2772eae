/** Promises 23 to 27: THE LOG and what agrees with it. */
public final class LogsTest {
    private static final String STEADY = "10x10h10=10x50;s10;m8,16,24,32,40,48";
    private static final int NONE = DroppingBalls.NONE;
    private static final int UNKNOWN = DroppingBalls.UNKNOWN;
    private static final int OUTSIDE = DroppingBalls.OUTSIDE;
    private static final int STATE = DroppingBalls.STATE;

    private LogsTest() {
    }

    public static void main(String[] args) {
        promise23();
        promise24();
        promise25();
        promise26();
        promise26Edges();
        promise26OfTwo();
        promise27();
        searchRefusals();
        twentySearches();
        Check.end();
    }

    private static void promise23() {
        Check.by("THE LOG of a BALL (0 to 11) becomes a TICK (0 to 95, 96; NONE: it tells nothing): what it was (NONE). UNKNOWN: ball; OUTSIDE.");
        DroppingBalls x = new DroppingBalls();
        Check.due("log: was none", x.log(0, 0), NONE);
        Check.due("log: was 0", x.log(0, 95), 0);
        Check.due("log: was 95", x.log(0, 96), 95);
        Check.due("log: was 96", x.log(0, NONE), 96);
        Check.due("log: none again", x.log(0, 7), NONE);
        Check.due("log: ball 11", x.log(11, 96), NONE);
        Check.due("log: two balls", x.count(4), 2);
        Check.due("log: ball 12", x.log(12, 1), UNKNOWN);
        Check.due("log: ball -1, unknown first", x.log(-1, 97), UNKNOWN);
        Check.due("log: tick 97", x.log(0, 97), OUTSIDE);
        Check.due("log: tick -2", x.log(0, -2), OUTSIDE);
        Check.due("log: it stays", x.log(0, NONE), 7);
        Check.due("log: one ball", x.count(4), 1);
    }

    private static void promise24() {
        Check.by("Whether a RUN AGREES: 1, 0. UNKNOWN: clock, season, fault.");
        DroppingBalls x = Check.with(STEADY);
        Check.due("agrees: nothing told", x.agrees(0, 0, NONE), 1);
        x.log(0, 7);
        Check.due("agrees: so", x.agrees(0, 0, NONE), 1);
        x.log(5, 47);
        Check.due("agrees: both", x.agrees(0, 0, NONE), 1);
        x.log(0, 6);
        Check.due("agrees: later than told", x.agrees(0, 0, NONE), 0);
        x.log(0, 8);
        Check.due("agrees: earlier than told", x.agrees(0, 0, NONE), 0);
        x.log(0, 96);
        Check.due("agrees: it drops", x.agrees(0, 0, NONE), 0);
        x.log(0, 7);
        x.log(5, 96);
        int clog = x.faulty(1, 0, 20, 8);
        Check.due("agrees: it does not drop", x.agrees(0, 0, clog), 1);
        x.log(5, 95);
        Check.due("agrees: it does not drop, on 95", x.agrees(0, 0, clog), 0);
        int half = x.faulty(1, 0, 5, 0);
        x.log(0, NONE);
        Check.due("agrees: on tick 95", x.agrees(0, 0, half), 1);
        x.log(5, NONE);
        x.log(6, 96);
        Check.due("agrees: a ball that it has not", x.agrees(0, 0, NONE), 0);
        Check.due("agrees: clock", x.agrees(1, 0, NONE), UNKNOWN);
        Check.due("agrees: season", x.agrees(0, 4, NONE), UNKNOWN);
        Check.due("agrees: fault", x.agrees(0, 0, 2), UNKNOWN);
        Check.due("agrees: fault -2", x.agrees(0, 0, -2), UNKNOWN);
    }

    private static void promise25() {
        Check.by("FAULTS by which the RUN AGREES, as bits (bit 8: without one). UNKNOWN: clock, season.");
        DroppingBalls x = Check.with(STEADY);
        Check.due("which: no faults, nothing told", x.which(0, 0), 256);
        x.faulty(0, 0, 1, 0);
        x.faulty(1, 0, 20, 0);
        x.faulty(1, 0, 20, 8);
        Check.due("which: nothing told", x.which(0, 0), 256 + 7);
        x.log(0, 7);
        Check.due("which: ball 0", x.which(0, 0), 256 + 1 + 4);
        x.log(1, 96);
        Check.due("which: the later clog", x.which(0, 0), 4);
        x.log(0, 96);
        Check.due("which: the clog", x.which(0, 0), 2);
        x.log(1, 15);
        Check.due("which: none", x.which(0, 0), 0);
        x.log(11, 96);
        Check.due("which: a ball that it has not", x.which(0, 0), 0);
        Check.due("which: clock", x.which(1, 0), UNKNOWN);
        Check.due("which: season", x.which(0, -1), UNKNOWN);
        DroppingBalls y = Check.with(STEADY);
        for (int i = 0; i < 8; i++) {
            y.faulty(0, 0, 1, 0);
        }
        Check.due("which: all eight", y.which(0, 0), 511);
    }

    private static void soughtIs(DroppingBalls x, int kind, int vessel, int[] want) {
        for (int what = 0; what < 4; what++) {
            Check.due("sought: kind " + kind + ", what " + what, x.sought(0, 0, kind, vessel, what), want[what]);
        }
    }

    private static void promise26() {
        Check.by("SOUGHT: what = 0 how many, 1 the least n, 2 the least c with that, 3 the greatest n (NONE: there are none).");
        DroppingBalls x = Check.with(STEADY);
        soughtIs(x, 2, 0, new int[] {1920, 1, 0, 20});
        x.log(0, 7);
        // A clog from TICK 8 on, behind the BALL.
        soughtIs(x, 1, 0, new int[] {88 * 20, 1, 8, 20});
        x.log(0, 8);
        // n times (9 - c) is 10 at most, and c 7 at most.
        soughtIs(x, 1, 0, new int[] {16, 1, 0, 5});
        x.log(0, 3);
        soughtIs(x, 1, 0, new int[] {0, NONE, NONE, NONE});
        Check.due("sought: each was done", x.count(5), 16);
    }

    private static void promise26Edges() {
        DroppingBalls x = Check.with(STEADY);
        x.log(0, 7);
        Check.due("sought: a vessel that it has not", x.sought(0, 0, 3, 1, 0), 1920);
        x.log(6, 96);
        Check.due("sought: a ball that it has not", x.sought(0, 0, 3, 1, 0), 0);
        x.log(6, NONE);
        x.log(5, 96);
        // The last of 480 drops come on TICK 47 without a clog: any that begins by then keeps it.
        // From c on 10 - n come a TICK: 10c + (10 - n)(96 - c) is to be below 480.
        int many = 0;
        for (int c = 8; c < 96; c++) {
            for (int n = 1; n <= 20; n++) {
                many += 10 * c + Math.max(0, 10 - n) * (96 - c) < 480 ? 1 : 0;
            }
        }
        Check.due("sought: a ball that does not drop", x.sought(0, 0, 1, 0, 0), many);
        x.log(0, 9);
        x.log(5, NONE);
        // A cold of n from c on: 10 drops a TICK ahead of it, (100 - n) / 10 (rounded down) from it on.
        int cold = 0;
        for (int c = 0; c < 96; c++) {
            for (int n = 1; n <= 20; n++) {
                int ahead = Math.min(c, 9) * 10 + (9 - Math.min(c, 9)) * ((100 - n) / 10);
                int by = Math.min(c, 10) * 10 + (10 - Math.min(c, 10)) * ((100 - n) / 10);
                cold += ahead < 80 && by >= 80 ? 1 : 0;
            }
        }
        Check.due("sought: cold", x.sought(0, 0, 4, 2, 0), cold);
    }

    /** Of two CLOCKS in turn: the first drops its BALL on TICK 7, the other on TICK 0. */
    private static void promise26OfTwo() {
        DroppingBalls x = Check.with(STEADY);
        Check.clock(x, "1x60h40=10x9;s0;m1");
        x.log(0, 7);
        Check.due("sought: of the first", x.sought(0, 0, 3, 1, 0), 1920);
        Check.due("sought: of the other", x.sought(1, 0, 3, 1, 0), 0);
        x.log(0, 0);
        Check.due("sought: of the first, too late", x.sought(0, 0, 3, 1, 0), 0);
        Check.due("sought: of the other, in time", x.sought(1, 0, 3, 1, 0), 1920);
    }

    private static void lostIs(DroppingBalls x, int many, int hole, int supply) {
        Check.due("lost: how many", x.lost(0, 0, 0, 0), many);
        Check.due("lost: hole", x.lost(0, 0, 0, 1), hole);
        Check.due("lost: supply", x.lost(0, 0, 0, 2), supply);
    }

    private static void promise27() {
        Check.by("LOST: what = 0 how many, 1 HOLE, 2 SUPPLY of the first one (of least HOLE, then of least SUPPLY; NONE).");
        DroppingBalls x = Check.with("1x1h1=1x1;s0;m1");
        lostIs(x, 40 * 61, 1, 0);
        x.log(0, 0);
        lostIs(x, 31 * 61, 10, 0);
        x.log(0, 96);
        lostIs(x, 9 * 61, 1, 0);
        x.log(0, 1);
        lostIs(x, 0, NONE, NONE);
        Check.due("lost: the clock is as it was, hole", x.told(0, 12), 1);
        Check.due("lost: the clock is as it was, supply", x.told(0, 3), 0);
        DroppingBalls y = Check.with("1x1h1=2x1;s7;m1");
        y.log(0, 1);
        lostIs(y, 31 * 60, 10, 1);
        y.log(1, 96);
        lostIs(y, 0, NONE, NONE);
        DroppingBalls z = Check.with("1x1h1>1x1h1=1x1;s0;m1");
        z.log(0, 0);
        Check.due("lost: of the second vessel", z.lost(0, 0, 1, 1), 10);
        Check.due("lost: of the first vessel", z.lost(0, 0, 0, 0), 0);
    }

    private static void searchRefusals() {
        Check.by("UNKNOWN: clock, season; OUTSIDE: kind, vessel, what; STATE: sought(), lost() were done 20 times together.",
                "UNKNOWN: clock, season; OUTSIDE: vessel (one that the CLOCK has), what; STATE, as sought().");
        DroppingBalls x = Check.with(STEADY);
        int[][] outside = {{0, 0, 0}, {5, 0, 0}, {-1, 0, 0}, {1, -1, 0}, {1, 3, 0}, {1, 0, -1}, {1, 0, 4}};
        for (int[] o : outside) {
            Check.due("sought: outside", x.sought(0, 0, o[0], o[1], o[2]), OUTSIDE);
        }
        Check.due("sought: clock, unknown first", x.sought(1, 0, 0, 0, 0), UNKNOWN);
        Check.due("sought: season", x.sought(0, 4, 1, 0, 0), UNKNOWN);
        Check.due("lost: vessel -1", x.lost(0, 0, -1, 0), OUTSIDE);
        Check.due("lost: a vessel that it has not", x.lost(0, 0, 1, 0), OUTSIDE);
        Check.due("lost: what -1", x.lost(0, 0, 0, -1), OUTSIDE);
        Check.due("lost: what 3", x.lost(0, 0, 0, 3), OUTSIDE);
        Check.due("lost: clock, unknown first", x.lost(-1, 0, 1, 3), UNKNOWN);
        Check.due("lost: season", x.lost(0, 4, 0, 0), UNKNOWN);
        Check.due("refused searches do not count", x.count(5), 0);
    }

    private static void twentySearches() {
        DroppingBalls x = Check.with("1x1h1=1x1;s0;m1");
        for (int i = 0; i < 20; i++) {
            Check.due("search " + i, i % 2 == 0 ? x.lost(0, 0, 0, 1) : x.sought(0, 0, 4, 0, 1), 1);
            Check.due("searches done", x.count(5), i + 1);
        }
        Check.due("sought: the 21st", x.sought(0, 0, 1, 0, 0), STATE);
        Check.due("lost: the 21st", x.lost(0, 0, 0, 0), STATE);
        Check.due("sought: outside is told ahead of state", x.sought(0, 0, 1, 0, 4), OUTSIDE);
        Check.due("lost: outside is told ahead of state", x.lost(0, 0, 1, 0), OUTSIDE);
        Check.due("sought: unknown is told ahead of state", x.sought(1, 0, 1, 0, 0), UNKNOWN);
        Check.due("lost: unknown is told ahead of state", x.lost(1, 0, 0, 0), UNKNOWN);
        Check.due("searches still done", x.count(5), 20);
    }
}
