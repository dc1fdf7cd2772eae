import java.math.BigInteger;
import java.util.ArrayList;
import java.util.List;

/** Bounds of RECORDS, the IMAGE, what is counted and the digest (promises 28 to 33), sentence by sentence. */
public final class RecordEdgesTest {
    private static final int NONE = DroppingBalls.NONE;
    private static final int UNKNOWN = DroppingBalls.UNKNOWN;
    private static final int OUTSIDE = DroppingBalls.OUTSIDE;
    private static final int STATE = DroppingBalls.STATE;
    private static final String CLOCK = "10x10h10=10x99;s10;m10,20,30";
    private static final int CLOG = 1;

    private RecordEdgesTest() {
    }

    public static void main(String[] args) {
        spansFromBallToBall();
        spansOfThreeBalls();
        spansAtTheEndsOfTheDay();
        noneBetween();
        ballsThatDoNotDrop();
        spanRefusals();
        holdsOnEachTick();
        skies();
        blamedIsTheLeast();
        blamedOfNone();
        noImage();
        imageOfTheLog();
        imageOfSeasons();
        imageOfTheHead();
        imageKeepsNoMore();
        theLatestImage();
        counts();
        digestOfANewOne();
        digestOfAFullOne();
        Check.end();
    }

    private static void spanIs(DroppingBalls x, int fault, int ball, int first, int last) {
        Check.due("the first TICK of BALL " + ball, x.span(0, 0, fault, ball, 0), first);
        Check.due("the last TICK of BALL " + ball, x.span(0, 0, fault, ball, 1), last);
    }

    // ---- RECORDS

    private static void spansFromBallToBall() {
        Check.by("from the TICK of BALL i (0, if NONE) to the TICK ahead of that of the next one");
        for (int first = 1; first <= 96; first += 5) {
            for (int second = first + 1; second <= 96; second += 9) {
                DroppingBalls x = Check.withMarks(first + "," + second);
                spanIs(x, NONE, NONE, first == 1 ? NONE : 0, first == 1 ? NONE : first - 2);
                spanIs(x, NONE, 0, first - 1, second - 2);
                spanIs(x, NONE, 1, second - 1, 95);
            }
        }
    }

    private static void spansOfThreeBalls() {
        DroppingBalls x = Check.with(CLOCK);
        int[][] want = {{0, 8}, {9, 18}, {19, 28}, {29, 95}};
        for (int ball = NONE; ball <= 2; ball++) {
            spanIs(x, NONE, ball, want[ball + 1][0], want[ball + 1][1]);
        }
    }

    private static void spansAtTheEndsOfTheDay() {
        DroppingBalls x = Check.withMarks("1,2,95,96");
        spanIs(x, NONE, NONE, NONE, NONE);
        spanIs(x, NONE, 0, 0, 0);
        spanIs(x, NONE, 1, 1, 93);
        spanIs(x, NONE, 2, 94, 94);
        spanIs(x, NONE, 3, 95, 95);
    }

    private static void noneBetween() {
        Check.by("there is no SPAN, if BALL i does not drop, or none is between");
        DroppingBalls x = Check.with("10x10h10=5x99;s10;m1,2,3,4,6");
        spanIs(x, NONE, NONE, NONE, NONE);
        spanIs(x, NONE, 0, NONE, NONE);
        spanIs(x, NONE, 1, 0, 0);
        spanIs(x, NONE, 2, NONE, NONE);
        spanIs(x, NONE, 3, 1, 1);
        spanIs(x, NONE, 4, 2, 95);
        for (int sky = 0; sky <= 95; sky++) {
            Check.due("it HOLDS nowhere, sky " + sky, x.record(0, 0, 0, sky, 0), 0);
            Check.due("nor ahead of the first, sky " + sky, x.record(0, 0, NONE, sky, 0), 0);
        }
    }

    private static void ballsThatDoNotDrop() {
        Check.by("95, if there is none or it does not drop");
        DroppingBalls x = Check.withMarks("1,97,98");
        spanIs(x, NONE, NONE, NONE, NONE);
        spanIs(x, NONE, 0, 0, 95);
        spanIs(x, NONE, 1, NONE, NONE);
        spanIs(x, NONE, 2, NONE, NONE);
        DroppingBalls none = Check.with("1x1h1=1x1;s0;m1");
        spanIs(none, NONE, NONE, 0, 95);
        spanIs(none, NONE, 0, NONE, NONE);
        DroppingBalls fault = Check.with(CLOCK);
        for (int from : new int[] {9, 10, 19, 20, 29, 30}) {
            fault.faulty(CLOG, 0, 20, from);
        }
        int[] dropped = {0, 1, 1, 2, 2, 3};
        int[] first = {0, 9, 19, 29};
        for (int f = 0; f < 6; f++) {
            for (int ball = NONE; ball <= 2; ball++) {
                boolean drops = ball < dropped[f];
                boolean isLast = ball == dropped[f] - 1;
                spanIs(fault, f, ball, drops ? first[ball + 1] : NONE, !drops ? NONE : isLast ? 95 : first[ball + 2] - 1);
            }
        }
    }

    private static void spanRefusals() {
        Check.by("UNKNOWN: ball (NONE: ahead of the first), too; OUTSIDE");
        DroppingBalls x = Check.with(CLOCK);
        x.faulty(0, 0, 1, 0);
        int[][] unknown = {{-1, 0, 0, 0}, {1, 0, 0, 0}, {0, -1, 0, 0}, {0, 4, 0, 0}, {0, 0, -2, 0}, {0, 0, 1, 0},
            {0, 0, 0, -2}, {0, 0, 0, 3}, {0, 0, 0, Integer.MIN_VALUE}, {0, 0, 0, Integer.MAX_VALUE}};
        for (int[] u : unknown) {
            Check.due("span", x.span(u[0], u[1], u[2], u[3], 0), UNKNOWN);
            Check.due("span, what 2", x.span(u[0], u[1], u[2], u[3], 2), UNKNOWN);
        }
        for (int what : new int[] {-2, -1, 2, 3, Integer.MIN_VALUE, Integer.MAX_VALUE}) {
            Check.due("what " + what, x.span(0, 0, NONE, 0, what), OUTSIDE);
            Check.due("what " + what + " ahead of the first", x.span(0, 0, 0, NONE, what), OUTSIDE);
        }
        Check.due("the last ones that fit", x.span(0, 3, 0, 2, 1), 95);
    }

    private static void holdsOnEachTick() {
        Check.by("The sky says a TICK: HOLDS, if it is in the SPAN");
        int[][] spans = {{0, 8}, {9, 18}, {19, 28}, {29, 95}};
        for (int ball = NONE; ball <= 2; ball++) {
            DroppingBalls x = Check.with(CLOCK);
            x.faulty(CLOG, 0, 20, 0);
            for (int sky = -2; sky <= 98; sky++) {
                int want = sky < 0 || sky > 95 ? OUTSIDE : sky >= spans[ball + 1][0] && sky <= spans[ball + 1][1] ? 1 : 0;
                Check.due("BALL " + ball + ", sky " + sky, x.record(0, 0, ball, sky, 0), want);
                int blamed = sky < 0 || sky > 95 ? OUTSIDE : ball == NONE ? 0 : NONE;
                Check.due("BALL " + ball + ", sky " + sky + ", BLAMED", x.record(0, 0, ball, sky, 1), blamed);
            }
        }
    }

    private static void skies() {
        Check.by("UNKNOWN: clock, season, ball; OUTSIDE: sky (0 to 95), what");
        DroppingBalls x = Check.with(CLOCK);
        int[][] unknown = {{-1, 0, 0}, {1, 0, 0}, {0, -1, 0}, {0, 4, 0}, {0, 0, -2}, {0, 0, 3},
            {0, 0, Integer.MIN_VALUE}, {0, 0, Integer.MAX_VALUE}};
        for (int[] u : unknown) {
            Check.due("record", x.record(u[0], u[1], u[2], 0, 0), UNKNOWN);
            Check.due("record, all wrong", x.record(u[0], u[1], u[2], 96, 2), UNKNOWN);
        }
        for (int v : new int[] {-1, 96, Integer.MIN_VALUE, Integer.MAX_VALUE}) {
            Check.due("sky " + v, x.record(0, 0, 0, v, 0), OUTSIDE);
            Check.due("sky " + v + ", BLAMED", x.record(0, 0, NONE, v, 1), OUTSIDE);
        }
        for (int what : new int[] {-1, 2, Integer.MIN_VALUE, Integer.MAX_VALUE}) {
            Check.due("what " + what, x.record(0, 0, 0, 0, what), OUTSIDE);
        }
        Check.due("the last ones that fit", x.record(0, 3, 2, 95, 0), 1);
    }

    private static void blamedIsTheLeast() {
        Check.by("BLAMED: the least FAULT by which it would be");
        for (int own = 0; own < 8; own++) {
            DroppingBalls x = Check.with(CLOCK);
            for (int fault = 0; fault < 8; fault++) {
                x.faulty(fault < own ? 0 : CLOG, 0, 20, 15);
            }
            Check.due("from FAULT " + own + " on", x.record(0, 0, 0, 95, 1), own);
            Check.due("it does not HOLD without one", x.record(0, 0, 0, 95, 0), 0);
            Check.due("behind the next BALL", x.record(0, 0, 1, 19, 1), own == 0 ? NONE : 0);
        }
    }

    private static void blamedOfNone() {
        Check.by("BLAMED (1; NONE: none would)");
        DroppingBalls x = Check.with(CLOCK);
        Check.due("of no FAULTS, though it HOLDS", x.record(0, 0, 0, 9, 1), NONE);
        Check.due("of no FAULTS, ahead of the first", x.record(0, 0, NONE, 0, 1), NONE);
        for (int i = 0; i < 8; i++) {
            x.faulty(0, 0, 1, 0);
        }
        Check.due("of eight that do nothing", x.record(0, 0, 0, 8, 1), NONE);
        Check.due("the first of eight that do nothing", x.record(0, 0, 0, 9, 1), 0);
    }

    // ---- the IMAGE

    private static void noImage() {
        Check.by("STATE: none was kept");
        DroppingBalls x = Check.with(CLOCK);
        x.log(0, 5);
        x.season(0, 0, 60);
        long ahead = x.digest();
        Check.due("restore", x.restore(), STATE);
        Check.due("again", x.restore(), STATE);
        Check.due("it changes nothing", x.digest(), ahead);
        Check.due("image", x.image(), 1);
        Check.due("restore behind it", x.restore(), 1);
        Check.due("nothing else is changed", x.digest(), ahead);
    }

    private static void imageOfTheLog() {
        Check.by("An IMAGE is kept (one; the latest): how many BALLS THE LOG tells of",
                "It goes on from the IMAGE: how many BALLS THE LOG tells of");
        for (int kept = 0; kept <= 12; kept += 3) {
            DroppingBalls x = new DroppingBalls();
            for (int ball = 0; ball < kept; ball++) {
                x.log(ball, 96 - ball);
            }
            Check.due("image of " + kept, x.image(), kept);
            for (int ball = 0; ball < 12; ball++) {
                x.log(ball, ball % 2 == 0 ? NONE : 3);
            }
            Check.due("restore of " + kept, x.restore(), kept);
            Check.due("count of " + kept, x.count(4), kept);
            for (int ball = 0; ball < 12; ball++) {
                Check.due("BALL " + ball + " of " + kept, x.log(ball, 0), ball < kept ? 96 - ball : NONE);
            }
            Check.due("image of a full one", x.image(), 12);
            Check.due("restore of a full one", x.restore(), 12);
        }
    }

    private static void imageOfSeasons() {
        Check.by("An IMAGE keeps WARMTH, DAYLIGHT");
        DroppingBalls x = new DroppingBalls();
        x.image();
        for (int s = 0; s < 4; s++) {
            x.season(s, 0, 50 + s);
            x.season(s, 1, 24 + s);
        }
        x.restore();
        for (int s = 0; s < 4; s++) {
            Check.due("WARMTH of " + s + " of a new one", x.season(s, 0, 150 - s), 100);
            Check.due("DAYLIGHT of " + s + " of a new one", x.season(s, 1, 72 - s), 48);
        }
        x.image();
        for (int s = 0; s < 4; s++) {
            x.season(s, 0, 100);
            x.season(s, 1, 48);
        }
        x.restore();
        for (int s = 0; s < 4; s++) {
            Check.due("WARMTH of " + s, x.season(s, 0, 100), 150 - s);
            Check.due("DAYLIGHT of " + s, x.season(s, 1, 48), 72 - s);
        }
    }

    private static void imageOfTheHead() {
        Check.by("An IMAGE keeps WARMTH, DAYLIGHT, THE LOG, the HEAD");
        DroppingBalls x = Check.with(CLOCK);
        x.image();
        x.work(1, 0, NONE);
        x.head(0);
        Check.due("strokes with a HEAD", x.shows(0, 0, NONE, 0), 6);
        x.restore();
        Check.due("strokes without one", x.shows(0, 0, NONE, 0), 0);
        Check.due("the HEAD is none", x.head(0), NONE);
        x.image();
        x.work(1, 9, 0);
        x.head(1);
        x.restore();
        Check.due("the HEAD is 0", x.head(NONE), 0);
        x.restore();
        Check.due("it is 0 again", x.head(1), 0);
    }

    private static void imageKeepsNoMore() {
        DroppingBalls x = Check.with(CLOCK);
        x.image();
        Check.clock(x, CLOCK);
        x.faulty(CLOG, 0, 20, 0);
        x.work(0, 0, NONE);
        x.letters(Check.packed("1x1"));
        x.sought(0, 0, CLOG, 0, 0);
        Check.due("restore", x.restore(), 0);
        int[] want = {2, 1, 1, 3, 0, 1};
        for (int what = 0; what <= 5; what++) {
            Check.due("count " + what + " stays", x.count(what), want[what]);
        }
        Check.due("the page stays", x.fault(), 3);
        Check.due("the FAULT stays", x.drops(1, 0, 0, 0), NONE);
    }

    private static void theLatestImage() {
        Check.by("An IMAGE is kept (one; the latest)");
        DroppingBalls x = new DroppingBalls();
        x.image();
        x.log(0, 1);
        x.image();
        x.log(1, 1);
        x.log(2, 1);
        Check.due("the latest", x.restore(), 1);
        Check.due("restored twice", x.restore(), 1);
        x.log(3, 1);
        Check.due("what is told behind it is not in it", x.restore(), 1);
        Check.due("BALL 3", x.log(3, NONE), NONE);
        Check.due("BALL 0", x.log(0, NONE), 1);
        Check.due("an empty one", x.image(), 0);
        x.log(0, 1);
        Check.due("restore of an empty one", x.restore(), 0);
    }

    // ---- what is told

    private static void counts() {
        Check.by("How many: 0 CLOCKS, 1 FAULTS, 2 WORKS, 3 letters of THE PAGE, 4 BALLS THE LOG tells of, 5 how often sought(), lost() were done together. OUTSIDE");
        DroppingBalls x = new DroppingBalls();
        for (int what = -5; what <= 12; what++) {
            Check.due("count " + what + " of a new one", x.count(what), what < 0 || what > 5 ? OUTSIDE : 0);
        }
        DroppingBalls full = Sample.full().make();
        int[] want = {4, 8, 10, 80, 12, 20};
        for (int what = -5; what <= 12; what++) {
            Check.due("count " + what + " of a full one", full.count(what), what < 0 || what > 5 ? OUTSIDE : want[what]);
        }
        Check.due("the least what", full.count(Integer.MIN_VALUE), OUTSIDE);
        Check.due("the greatest what", full.count(Integer.MAX_VALUE), OUTSIDE);
    }

    /** The digest without a bound, and what is left of it in a long. */
    private static BigInteger unbound(List<Integer> numbers) {
        BigInteger h = BigInteger.valueOf(409);
        for (int number : numbers) {
            h = h.multiply(BigInteger.valueOf(31)).add(BigInteger.valueOf(number));
        }
        return h;
    }

    private static void digestOfANewOne() {
        Check.by("h is 409, then for each of these numbers, in order, 31 times h, and it (as longs, wrapping)");
        List<Integer> numbers = new ArrayList<>();
        for (int s = 0; s < 4; s++) {
            numbers.addAll(List.of(100, 48));
        }
        for (int i = 0; i < 13; i++) {
            numbers.add(NONE);
        }
        for (int i = 0; i < 6; i++) {
            numbers.add(0);
        }
        BigInteger h = unbound(numbers);
        Check.holds("a long has no room for it", h.bitLength() > 64);
        Check.due("digest", new DroppingBalls().digest(), h.longValue());
    }

    private static void digestOfAFullOne() {
        Sample full = Sample.full();
        DroppingBalls x = full.make();
        List<Integer> numbers = new ArrayList<>();
        for (int s = 0; s < 4; s++) {
            numbers.addAll(List.of(full.warmthOf(s), full.daylightOf(s)));
        }
        for (int clock = 0; clock < 4; clock++) {
            addClock(numbers, x, clock);
        }
        for (int fault = 0; fault < 8; fault++) {
            addAll(numbers, full.fault(fault));
        }
        for (int work = 0; work < 10; work++) {
            addAll(numbers, full.work(work));
        }
        numbers.add(full.head());
        for (int ball = 0; ball < 12; ball++) {
            numbers.add(full.logOf(ball));
        }
        addAll(numbers, full.page().chars().toArray());
        addAll(numbers, new int[] {4, 8, 10, 80, 12, 20});
        Check.due("digest of a full one", x.digest(), unbound(numbers).longValue());
        Check.due("it changes nothing", x.digest(), unbound(numbers).longValue());
    }

    private static void addAll(List<Integer> numbers, int[] more) {
        for (int number : more) {
            numbers.add(number);
        }
    }

    private static void addClock(List<Integer> numbers, DroppingBalls x, int clock) {
        for (int what = 0; what <= 4; what++) {
            numbers.add(x.told(clock, what));
        }
        for (int v = 0; v < x.told(clock, 0); v++) {
            for (int what = 0; what <= 2; what++) {
                numbers.add(x.told(clock, 10 * v + 10 + what));
            }
        }
        for (int i = 0; i < x.told(clock, 4); i++) {
            numbers.add(x.told(clock, 40 + i));
        }
        for (int i = 0; i < x.told(clock, 4); i++) {
            numbers.add(x.drops(clock, 0, NONE, i));
        }
        for (int what = 0; what <= 3; what++) {
            numbers.add(x.shows(clock, 0, NONE, what));
        }
    }
}
