import java.util.ArrayList;
import java.util.List;

/**
 * "Refusals, of several the first as told by each call: UNKNOWN (a number names nothing), OUTSIDE (it is not as told),
 * STATE (as told), FULL; they change nothing." Each call with the last numbers that fit, the first that do not and the
 * extremes, on each side and in all mixes, on a new object, on one with some and on full ones.
 */
public final class RefusalsTest {
    private static final int NONE = DroppingBalls.NONE;
    private static final int UNKNOWN = DroppingBalls.UNKNOWN;
    private static final int OUTSIDE = DroppingBalls.OUTSIDE;
    private static final int STATE = DroppingBalls.STATE;
    private static final int FULL = DroppingBalls.FULL;
    private static final int ERROR_UNKNOWN = -1001;
    private static final int FITS = 0;
    /** So many calls are made on one object, beside those that make it and those afterwards: 512 are promised. */
    private static final int CALLS_OF_ONE = 200;

    /** What the numbers of a call are bound by. */
    private enum Bound {
        CLOCK(UNKNOWN), SEASON(UNKNOWN), FAULT(UNKNOWN), FAULT_OR_NONE(UNKNOWN), WORK(UNKNOWN), WORK_OR_NONE(UNKNOWN),
        BALL(UNKNOWN), BALL_OR_NONE(UNKNOWN), BALL_OF_LOG(UNKNOWN),
        SETTING(OUTSIDE), KIND(OUTSIDE), KIND_SOUGHT(OUTSIDE), NUMBER_OF_FAULT(OUTSIDE), NUMBER_OF_WORK(OUTSIDE),
        VESSEL(OUTSIDE), VESSEL_OF_CLOCK(OUTSIDE), TICK(OUTSIDE), TICK_OF_LOG(OUTSIDE), DAYS(OUTSIDE), SIZE(OUTSIDE),
        UP_TO_1(OUTSIDE), UP_TO_2(OUTSIDE), UP_TO_3(OUTSIDE), UP_TO_5(OUTSIDE), UP_TO_7(OUTSIDE), TOLD(OUTSIDE), SHOWN(OUTSIDE);

        final int refusal;

        Bound(int refusal) {
            this.refusal = refusal;
        }

        /** The least and the greatest that fit, given the numbers ahead of it; in pairs, if there are gaps between. */
        long[] limits(Sample s, long[] ahead) {
            switch (this) {
                case CLOCK: return upTo(s.clocks() - 1);
                case SEASON: case UP_TO_3: return upTo(3);
                case FAULT: return upTo(s.faults() - 1);
                case FAULT_OR_NONE: return new long[] {NONE, s.faults() - 1};
                case WORK: return upTo(s.works() - 1);
                case WORK_OR_NONE: return new long[] {NONE, s.works() - 1};
                case BALL: return upTo(s.marksOf(ahead[0]) - 1);
                case BALL_OR_NONE: return new long[] {NONE, s.marksOf(ahead[0]) - 1};
                case BALL_OF_LOG: return upTo(11);
                case SETTING: return ahead[1] == 0 ? new long[] {50, 150} : new long[] {24, 72};
                case KIND: return upTo(4);
                case KIND_SOUGHT: return new long[] {1, 4};
                case NUMBER_OF_FAULT: return new long[] {1, 20};
                case NUMBER_OF_WORK: return ofWork(ahead[0]);
                case VESSEL: case UP_TO_2: return upTo(2);
                case VESSEL_OF_CLOCK: return upTo(s.vesselsOf(ahead[0]) - 1);
                case TICK: return upTo(95);
                case TICK_OF_LOG: return new long[] {NONE, 96};
                case DAYS: return new long[] {1, 30};
                case SIZE: return upTo(96);
                case UP_TO_1: return upTo(1);
                case UP_TO_5: return upTo(5);
                case UP_TO_7: return upTo(7);
                case TOLD: return new long[] {0, 4, 10, 12, 20, 22, 30, 32, 40, 51};
                default: return new long[] {0, 3, 10, 29};
            }
        }

        private static long[] upTo(int most) {
            return new long[] {0, most};
        }

        private static long[] ofWork(long kind) {
            long[] most = {0, 9, 3, 9, 5};
            boolean is = kind >= 0 && kind <= 4;
            return new long[] {kind == 3 ? 1 : kind == 4 ? 2 : 0, is ? most[(int) kind] : 0};
        }

        boolean fits(Sample s, long[] ahead, long v) {
            long[] limits = limits(s, ahead);
            for (int i = 0; i < limits.length; i += 2) {
                if (v >= limits[i] && v <= limits[i + 1]) {
                    return true;
                }
            }
            return false;
        }

        List<Long> tries(Sample s, long[] ahead) {
            List<Long> tries = new ArrayList<>(List.of((long) Integer.MIN_VALUE, (long) Integer.MAX_VALUE));
            long[] limits = limits(s, ahead);
            for (int i = 0; i < limits.length; i += 2) {
                for (long v : new long[] {limits[i] - 1, limits[i], limits[i + 1], limits[i + 1] + 1}) {
                    if (!tries.contains(v)) {
                        tries.add(v);
                    }
                }
            }
            return tries;
        }
    }

    private static final Object[][] CALLS = {
        {"told", Bound.CLOCK, Bound.TOLD}, {"season", Bound.SEASON, Bound.UP_TO_1, Bound.SETTING},
        {"faulty", Bound.KIND, Bound.VESSEL, Bound.NUMBER_OF_FAULT, Bound.TICK}, {"as", Bound.FAULT, Bound.KIND},
        {"work", Bound.KIND, Bound.NUMBER_OF_WORK, Bound.WORK_OR_NONE}, {"workAs", Bound.WORK, Bound.KIND},
        {"head", Bound.WORK_OR_NONE}, {"drops", Bound.CLOCK, Bound.SEASON, Bound.FAULT_OR_NONE, Bound.BALL},
        {"error", Bound.CLOCK, Bound.SEASON, Bound.FAULT_OR_NONE, Bound.BALL},
        {"at", Bound.CLOCK, Bound.SEASON, Bound.FAULT_OR_NONE, Bound.TICK, Bound.UP_TO_7},
        {"even", Bound.CLOCK, Bound.SEASON, Bound.FAULT_OR_NONE, Bound.UP_TO_1},
        {"mean", Bound.CLOCK, Bound.SEASON, Bound.FAULT_OR_NONE, Bound.UP_TO_1},
        {"shows", Bound.CLOCK, Bound.SEASON, Bound.FAULT_OR_NONE, Bound.SHOWN}, {"worst", Bound.CLOCK, Bound.UP_TO_2},
        {"better", Bound.CLOCK, Bound.CLOCK}, {"mark", Bound.CLOCK, Bound.SEASON, Bound.BALL},
        {"mended", Bound.CLOCK, Bound.SEASON, Bound.VESSEL, Bound.DAYS, Bound.SIZE},
        {"log", Bound.BALL_OF_LOG, Bound.TICK_OF_LOG}, {"agrees", Bound.CLOCK, Bound.SEASON, Bound.FAULT_OR_NONE},
        {"which", Bound.CLOCK, Bound.SEASON},
        {"sought", Bound.CLOCK, Bound.SEASON, Bound.KIND_SOUGHT, Bound.VESSEL, Bound.UP_TO_3},
        {"lost", Bound.CLOCK, Bound.SEASON, Bound.VESSEL_OF_CLOCK, Bound.UP_TO_2},
        {"span", Bound.CLOCK, Bound.SEASON, Bound.FAULT_OR_NONE, Bound.BALL_OR_NONE, Bound.UP_TO_1},
        {"record", Bound.CLOCK, Bound.SEASON, Bound.BALL_OR_NONE, Bound.TICK, Bound.UP_TO_1}, {"count", Bound.UP_TO_5}};

    private final Sample sample;
    private final List<Long> untouched;
    private final List<Call> refused = new ArrayList<>();
    private final List<Integer> refusals = new ArrayList<>();
    private final List<Call> fitting = new ArrayList<>();

    private RefusalsTest(Sample sample) {
        this.sample = sample;
        untouched = afterwards(sample.make());
    }

    public static void main(String[] args) {
        Check.by("Refusals, of several the first as told by each call: UNKNOWN (a number names nothing), OUTSIDE (it is not as told), STATE (as told), FULL; they change nothing.");
        for (Sample sample : Sample.all()) {
            System.out.println("on " + sample.name());
            RefusalsTest test = new RefusalsTest(sample);
            for (Object[] call : CALLS) {
                test.sort(call, new Call((String) call[0]));
            }
            test.sortCallsOfThePage();
            test.refuse();
            test.answer();
        }
        Check.end();
    }

    // ---- which calls are refused

    /** Puts each mix of numbers, that goes on from those that the call has, where it belongs. */
    private void sort(Object[] bounds, Call call) {
        int i = call.args().length;
        if (i == bounds.length - 1) {
            sort(call, refusalOf(bounds, call));
            return;
        }
        for (long v : ((Bound) bounds[i + 1]).tries(sample, call.args())) {
            sort(bounds, call.with(v));
        }
    }

    private void sort(Call call, int refusal) {
        if (refusal == FITS) {
            fitting.add(call);
        } else {
            refused.add(call);
            refusals.add(refusal);
        }
    }

    private int refusalOf(Object[] bounds, Call call) {
        boolean isWork = call.name().equals("work");
        int first = isWork ? OUTSIDE : UNKNOWN;
        int second = isWork ? UNKNOWN : OUTSIDE;
        if (breaks(bounds, call, first)) {
            return call.name().equals("error") ? ERROR_UNKNOWN : first;
        }
        return breaks(bounds, call, second) ? second : refusalOfFull(call.name());
    }

    /** Whether a number of the call is beyond a bound of that refusal. */
    private boolean breaks(Object[] bounds, Call call, int refusal) {
        for (int i = 0; i < call.args().length; i++) {
            Bound b = (Bound) bounds[i + 1];
            if (b.refusal == refusal && !b.fits(sample, call.args(), call.args()[i])) {
                return true;
            }
        }
        return false;
    }

    /** What a call is refused by when all its numbers fit. */
    private int refusalOfFull(String name) {
        switch (name) {
            case "faulty": return sample.faults() == 8 ? FULL : FITS;
            case "work": return sample.works() == 10 ? FULL : FITS;
            case "sought": case "lost": return sample.searches() == 20 ? STATE : FITS;
            default: return FITS;
        }
    }

    private void sortCallsOfThePage() {
        int room = 80 - sample.page().length();
        for (int more = 0; more <= 8; more++) {
            long letters = Check.packed("1234567~".substring(8 - more));
            sort(new Call("letters", letters), more > room ? FULL : FITS);
            for (int code : new int[] {127, 128, 255}) {
                if (more < 8) {
                    sort(new Call("letters", letters | (long) code << 8 * more), OUTSIDE);
                }
            }
            if (more < 7) {
                sort(new Call("letters", letters | 1L << 8 * more + 8), OUTSIDE);
                sort(new Call("letters", letters | 49L << 56), OUTSIDE);
            }
        }
        boolean isClock = sample.page().endsWith("99");
        sort(new Call("clock"), isClock ? FULL : STATE);
        sort(new Call("restore"), sample.hasImage() ? FITS : STATE);
        sort(new Call("image"), FITS);
        sort(new Call("blank"), FITS);
        sort(new Call("fault"), FITS);
    }

    // ---- what they do

    /** Makes the calls that are to be refused, and sees to it that each later call tells what it tells without them. */
    private void refuse() {
        for (int start = 0; start < refused.size(); start += CALLS_OF_ONE) {
            DroppingBalls x = sample.make();
            int end = Math.min(refused.size(), start + CALLS_OF_ONE);
            for (int i = start; i < end; i++) {
                Check.due(refused.get(i).toString(), refused.get(i).on(x), refusals.get(i));
            }
            List<Long> later = afterwards(x);
            for (int i = 0; i < later.size(); i++) {
                Check.due("behind the refusals from " + refused.get(start) + " on: " + AFTERWARDS.get(i), later.get(i),
                        untouched.get(i));
            }
        }
    }

    /** Makes the calls that fit, those that change something on an object of its own: none is refused, each answers as the Model does. */
    private void answer() {
        Sample unsearched = sample.unsearched();
        DroppingBalls x = unsearched.make();
        Model model = unsearched.model();
        for (int i = 0; i < fitting.size(); i++) {
            Call call = fitting.get(i);
            if (changes(call.name()) || i % CALLS_OF_ONE == 0) {
                x = unsearched.make();
                model = unsearched.model();
            }
            long answer = call.on(x);
            boolean isRefusal = answer == UNKNOWN || answer == OUTSIDE || answer == STATE || answer == FULL
                    || answer == ERROR_UNKNOWN;
            Check.holds(call + " is not refused", !isRefusal);
            Check.due(call.toString(), answer, call.on(model));
            if (changes(call.name())) {
                Check.due("digest behind " + call, x.digest(), model.digest());
            }
        }
    }

    private static boolean changes(String name) {
        return List.of("season", "faulty", "work", "head", "log", "sought", "lost", "letters", "image", "restore", "blank")
                .contains(name);
    }

    private static final List<Call> AFTERWARDS = callsAfterwards();

    private static List<Long> afterwards(DroppingBalls x) {
        List<Long> answers = new ArrayList<>();
        for (Call call : AFTERWARDS) {
            answers.add(call.on(x));
        }
        return answers;
    }

    /** Calls that tell all that an object holds: some change it, so that also what is kept behind shows. */
    private static List<Call> callsAfterwards() {
        List<Call> calls = new ArrayList<>();
        calls.add(new Call("digest"));
        addReads(calls);
        calls.add(new Call("letters", '1'));
        calls.add(new Call("clock"));
        calls.add(new Call("blank"));
        calls.add(new Call("letters", Check.packed("1x1h1=1x")));
        calls.add(new Call("letters", Check.packed("1;s0;m1")));
        calls.add(new Call("clock"));
        calls.add(new Call("faulty", 4, 2, 20, 0));
        calls.add(new Call("work", 4, 5, NONE));
        calls.add(new Call("lost", 0, 0, 0, 0));
        calls.add(new Call("head", NONE));
        calls.add(new Call("digest"));
        calls.add(new Call("restore"));
        calls.add(new Call("digest"));
        addReads(calls);
        for (int i = 0; i < 4; i++) {
            calls.add(new Call("season", i, 0, 100));
            calls.add(new Call("season", i, 1, 48));
        }
        for (int ball = 0; ball < 12; ball++) {
            calls.add(new Call("log", ball, NONE));
        }
        calls.add(new Call("image"));
        calls.add(new Call("digest"));
        return calls;
    }

    private static void addReads(List<Call> calls) {
        for (int what = 0; what <= 5; what++) {
            calls.add(new Call("count", what));
        }
        calls.add(new Call("fault"));
        for (int i = 0; i < 4; i++) {
            calls.add(new Call("told", i, 12));
            calls.add(new Call("shows", i, 3, NONE, 0));
            calls.add(new Call("drops", i, 1, 1, 0));
            calls.add(new Call("worst", i, 0));
            calls.add(new Call("which", i, 0));
            calls.add(new Call("mended", i, 2, 0, 1, 50));
        }
        for (int i = 0; i < 8; i++) {
            calls.add(new Call("as", i, 1));
            calls.add(new Call("workAs", i, 3));
        }
    }
}
