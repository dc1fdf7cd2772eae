/** Promises 28 to 33: records, the IMAGE, what is counted, the digest. */
public final class RecordsTest {
    private static final String STEADY = "10x10h10=10x50;s10;m8,16,24,32,40,48";
    private static final int NONE = DroppingBalls.NONE;
    private static final int UNKNOWN = DroppingBalls.UNKNOWN;
    private static final int OUTSIDE = DroppingBalls.OUTSIDE;

    private RecordsTest() {
    }

    public static void main(String[] args) {
        promise28();
        promise28NoSpan();
        promise29();
        promise29Refusals();
        promise30And31();
        promise32();
        promise33();
        promise33Tells();
        Check.end();
    }

    private static void spanIs(DroppingBalls x, int fault, int ball, int first, int last) {
        Check.due("span: first of ball " + ball, x.span(0, 0, fault, ball, 0), first);
        Check.due("span: last of ball " + ball, x.span(0, 0, fault, ball, 1), last);
    }

    private static void promise28() {
        Check.by("SPAN of a RECORD: what = 0 the first, 1 the last TICK; NONE: there is none. UNKNOWN: ball (NONE: ahead of the first), too; OUTSIDE.");
        DroppingBalls x = Check.with(STEADY);
        spanIs(x, NONE, NONE, 0, 6);
        spanIs(x, NONE, 0, 7, 14);
        spanIs(x, NONE, 4, 39, 46);
        spanIs(x, NONE, 5, 47, 95);
        int later = x.faulty(1, 0, 20, 8);
        spanIs(x, later, 0, 7, 95);
        spanIs(x, later, 1, NONE, NONE);
        int whole = x.faulty(1, 0, 20, 0);
        spanIs(x, whole, NONE, 0, 95);
        spanIs(x, whole, 0, NONE, NONE);
        Check.due("span: ball 6", x.span(0, 0, NONE, 6, 0), UNKNOWN);
        Check.due("span: ball -2", x.span(0, 0, NONE, -2, 0), UNKNOWN);
        Check.due("span: clock", x.span(1, 0, NONE, 0, 0), UNKNOWN);
        Check.due("span: season", x.span(0, 4, NONE, 0, 0), UNKNOWN);
        Check.due("span: fault, unknown first", x.span(0, 0, 2, 0, 2), UNKNOWN);
        Check.due("span: what -1", x.span(0, 0, NONE, 0, -1), OUTSIDE);
        Check.due("span: what 2", x.span(0, 0, whole, 0, 2), OUTSIDE);
    }

    /** Both BALLS drop on TICK 0: nothing is ahead of the first or between. */
    private static void promise28NoSpan() {
        DroppingBalls x = Check.with("1x60h40=10x9;s0;m1,5");
        spanIs(x, NONE, NONE, NONE, NONE);
        spanIs(x, NONE, 0, NONE, NONE);
        spanIs(x, NONE, 1, 0, 95);
        DroppingBalls y = Check.with("10x10h10=10x50;s10;m2,3");
        spanIs(y, NONE, NONE, 0, 0);
        spanIs(y, NONE, 0, 1, 1);
    }

    private static void promise29() {
        Check.by("Whether a RECORD HOLDS without a FAULT (what = 0: 1, 0), BLAMED (1; NONE: none would).");
        DroppingBalls x = Check.with(STEADY);
        Check.due("record: ahead", x.record(0, 0, 0, 6, 0), 0);
        Check.due("record: first tick", x.record(0, 0, 0, 7, 0), 1);
        Check.due("record: last tick", x.record(0, 0, 0, 14, 0), 1);
        Check.due("record: behind", x.record(0, 0, 0, 15, 0), 0);
        Check.due("record: ahead of the first", x.record(0, 0, NONE, 6, 0), 1);
        Check.due("record: not ahead of the first", x.record(0, 0, NONE, 7, 0), 0);
        Check.due("record: behind the last", x.record(0, 0, 5, 95, 0), 1);
        Check.due("record: no faults", x.record(0, 0, 0, 7, 1), NONE);
        x.faulty(1, 0, 20, 0);
        x.faulty(1, 0, 20, 8);
        x.faulty(0, 0, 1, 0);
        x.faulty(1, 0, 19, 8);
        Check.due("record: blamed", x.record(0, 0, 0, 15, 1), 1);
        Check.due("record: blamed, though it holds", x.record(0, 0, 0, 7, 1), 1);
        Check.due("record: blamed, a plain fault", x.record(0, 0, 1, 15, 1), 2);
        Check.due("record: blamed, ahead of the first", x.record(0, 0, NONE, 95, 1), 0);
        Check.due("record: none would", x.record(0, 0, 5, 46, 1), NONE);
        Check.due("record: without a fault all the same", x.record(0, 0, 0, 15, 0), 0);
    }

    private static void promise29Refusals() {
        Check.by("UNKNOWN: clock, season, ball; OUTSIDE: sky (0 to 95), what.");
        DroppingBalls x = Check.with(STEADY);
        Check.due("record: sky -1", x.record(0, 0, 0, -1, 0), OUTSIDE);
        Check.due("record: sky 96", x.record(0, 0, 0, 96, 0), OUTSIDE);
        Check.due("record: what -1", x.record(0, 0, 0, 0, -1), OUTSIDE);
        Check.due("record: what 2", x.record(0, 0, 0, 0, 2), OUTSIDE);
        Check.due("record: clock, unknown first", x.record(1, 0, 0, 96, 2), UNKNOWN);
        Check.due("record: season", x.record(0, -1, 0, 0, 0), UNKNOWN);
        Check.due("record: ball 6", x.record(0, 0, 6, 0, 0), UNKNOWN);
        Check.due("record: ball -2", x.record(0, 0, -2, 0, 0), UNKNOWN);
    }

    private static void promise30And31() {
        Check.by("An IMAGE is kept (one; the latest): how many BALLS THE LOG tells of.",
                "It goes on from the IMAGE: how many BALLS THE LOG tells of. STATE: none was kept.");
        DroppingBalls x = Check.with(STEADY);
        Check.due("restore: none kept", x.restore(), DroppingBalls.STATE);
        x.work(1, 0, NONE);
        x.work(1, 1, NONE);
        x.head(0);
        x.log(3, 9);
        x.log(4, 96);
        x.season(0, 0, 55);
        x.season(0, 1, 25);
        x.season(1, 0, 60);
        x.season(2, 1, 30);
        Check.due("image: two", x.image(), 2);
        x.head(1);
        x.log(3, NONE);
        x.log(4, 5);
        x.log(0, 1);
        x.log(1, 2);
        x.season(0, 0, 56);
        x.season(0, 1, 26);
        x.season(1, 0, 70);
        x.season(2, 1, 40);
        x.season(3, 1, 50);
        x.faulty(0, 0, 1, 0);
        x.letters('1');
        x.lost(0, 0, 0, 0);
        Check.due("restore: two", x.restore(), 2);
        Check.due("restore: head", x.head(1), 0);
        Check.due("restore: log 3", x.log(3, NONE), 9);
        Check.due("restore: log 4", x.log(4, NONE), 96);
        Check.due("restore: log 0", x.log(0, 7), NONE);
        Check.due("restore: warmth of 0", x.season(0, 0, 57), 55);
        Check.due("restore: daylight of 0", x.season(0, 1, 27), 25);
        Check.due("restore: warmth", x.season(1, 0, 80), 60);
        Check.due("restore: daylight", x.season(2, 1, 50), 30);
        Check.due("restore: daylight of 3", x.season(3, 1, 50), 48);
        Check.due("restore: faults stay", x.count(1), 1);
        Check.due("restore: the page stays", x.count(3), 1);
        Check.due("restore: searches stay", x.count(5), 1);
        Check.due("restore: again from the same", x.restore(), 2);
        Check.due("restore: again, head", x.head(NONE), 0);
        Check.due("restore: again, log", x.log(3, 1), 9);
        Check.due("image: the latest", x.image(), 2);
        x.log(5, 5);
        Check.due("image: three now", x.image(), 3);
        x.log(5, NONE);
        Check.due("restore: the latest", x.restore(), 3);
        Check.due("restore: head none", x.head(0), NONE);
    }

    private static void promise32() {
        Check.by("How many: 0 CLOCKS, 1 FAULTS, 2 WORKS, 3 letters of THE PAGE, 4 BALLS THE LOG tells of,",
                "5 how often sought(), lost() were done together. OUTSIDE.");
        DroppingBalls x = Check.with(STEADY);
        Check.clock(x, STEADY);
        x.faulty(0, 0, 1, 0);
        for (int i = 0; i < 3; i++) {
            x.work(0, 0, NONE);
        }
        Check.type(x, "1x1h1");
        for (int i = 0; i < 4; i++) {
            x.log(i, 96);
        }
        x.log(0, NONE);
        x.sought(0, 0, 1, 0, 0);
        int[] want = {2, 1, 3, 5, 3, 1};
        for (int what = 0; what < want.length; what++) {
            Check.due("count: " + what, x.count(what), want[what]);
        }
        int[] outside = {-1, 6, Integer.MIN_VALUE, Integer.MAX_VALUE};
        for (int what : outside) {
            Check.due("count: " + what, x.count(what), OUTSIDE);
        }
    }

    private static long over(long h, long... numbers) {
        long result = h;
        for (long number : numbers) {
            result = 31 * result + number;
        }
        return result;
    }

    private static void promise33() {
        Check.by("h is 409, then for each of these numbers, in order, 31 times h, and it (as longs, wrapping): of each SEASON WARMTH, DAYLIGHT;",
                "of each CLOCK what told() tells for 0 to 4, of each VESSEL AREA, HEIGHT, HOLE, MARKS,",
                "and for SEASON 0, without a FAULT, the TICK of each BALL (NONE), what shows() tells for 0 to 3;",
                "of each FAULT KIND, VESSEL, n, c; of each WORK KIND, n, next (NONE); the HEAD (NONE), THE LOG of all BALLS (NONE);",
                "letters of THE PAGE; what count() tells for 0 to 5.");
        DroppingBalls x = new DroppingBalls();
        long h = over(409, 100, 48, 100, 48, 100, 48, 100, 48, -1);
        h = over(h, -1, -1, -1, -1, -1, -1, -1, -1, -1, -1, -1, -1);
        Check.due("digest: new", x.digest(), over(h, 0, 0, 0, 0, 0, 0));
        Check.due("digest: changes nothing", x.digest(), over(h, 0, 0, 0, 0, 0, 0));

        x.season(1, 0, 60);
        x.season(2, 1, 30);
        Check.clock(x, "10x10h10=10x50;s10;m1,99");
        x.faulty(3, 2, 7, 11);
        x.work(2, 3, NONE);
        x.work(1, 5, 0);
        x.head(1);
        x.log(2, 96);
        x.sought(0, 0, 1, 0, 0);
        Check.type(x, "1x~");
        h = over(409, 100, 48, 60, 48, 100, 30, 100, 48);
        h = over(h, 1, 10, 50, 10, 2, 10, 10, 10, 1, 99, 0, -1, 6, 1, -1, -1);
        h = over(h, 3, 2, 7, 11);
        h = over(h, 2, 3, -1, 1, 5, 0);
        h = over(h, 1, -1, -1, 96, -1, -1, -1, -1, -1, -1, -1, -1, -1);
        h = over(h, '1', 'x', '~');
        Check.due("digest: of each part", x.digest(), over(h, 1, 1, 2, 3, 1, 1));
    }

    /** Each change that the digest tells makes it another. */
    private static void promise33Tells() {
        DroppingBalls x = Check.with(STEADY);
        x.work(1, 0, NONE);
        long[] seen = new long[8];
        seen[0] = x.digest();
        x.head(0);
        seen[1] = x.digest();
        x.log(11, 0);
        seen[2] = x.digest();
        x.season(3, 1, 49);
        seen[3] = x.digest();
        x.season(0, 0, 50);
        seen[4] = x.digest();
        x.letters(' ');
        seen[5] = x.digest();
        x.faulty(0, 0, 1, 0);
        seen[6] = x.digest();
        x.lost(0, 0, 0, 0);
        seen[7] = x.digest();
        for (int i = 0; i < seen.length; i++) {
            for (int k = 0; k < i; k++) {
                Check.holds("digest: " + i + " and " + k + " are others", seen[i] != seen[k]);
            }
        }
    }
}
