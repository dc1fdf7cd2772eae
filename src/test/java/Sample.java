import java.util.ArrayList;
import java.util.List;

/** Objects to make calls on, of which it is known what they hold: a new one, one with some, one with all that there is room for. */
final class Sample {
    private static final int NONE = DroppingBalls.NONE;
    private static final String[] CLOCKS = {"10x10h10=10x50;s10;m8,16,24,32,40,48", "10x10h10>9x12h7=8x30;s9;m7",
        "3x20h9>4x9h7>5x8h6=7x30;s12;m1,2,3,5,8,13,21,34,55,60,70,80", "30x60h40=99x99;s60;m3,9,27"};
    private static final int[] VESSELS = {1, 2, 3, 1};
    private static final int[] MARKS = {6, 1, 12, 3};
    private static final int[][] FAULTS = {{0, 0, 1, 0}, {1, 0, 20, 95}, {2, 1, 5, 10}, {3, 2, 7, 20}, {4, 0, 9, 30},
        {0, 2, 20, 95}, {1, 0, 3, 0}, {2, 0, 4, 0}};
    private static final int[][] WORKS = {{1, 3, NONE}, {2, 0, 0}, {2, 1, 1}, {3, 2, 2}, {4, 2, 3}, {0, 0, 4}, {1, 0, 5},
        {2, 3, 6}, {3, 9, 7}, {4, 5, 8}};
    private static final String LONGEST =
            "30x60h40>30x60h40>30x60h40=99x99;s60;m88,89,90,91,92,93,94,95,96,97,98,99";

    private final String name;
    private final int clocks;
    private final int faults;
    private final int works;
    private final int balls;
    private final String page;
    private final int searches;
    private final boolean hasImage;

    private Sample(String name, int clocks, int faults, int works, int balls, String page, int searches) {
        this.name = name;
        this.clocks = clocks;
        this.faults = faults;
        this.works = works;
        this.balls = balls;
        this.page = page;
        this.searches = searches;
        hasImage = clocks > 0;
    }

    static Sample empty() {
        return new Sample("a new one", 0, 0, 0, 0, "", 0);
    }

    /** Two CLOCKS, and what would be a third on THE PAGE but for its MARK. */
    static Sample some() {
        return new Sample("one with some", 2, 3, 4, 2, "1x1h1=1x1;s0;m", 2);
    }

    /** All that there is room for but THE PAGE, on which there is a CLOCK: the one text that finds no room. */
    static Sample fullWithClock() {
        return new Sample("a full one with a CLOCK on its page", 4, 8, 10, 12, LONGEST, 20);
    }

    static Sample full() {
        return new Sample("a full one", 4, 8, 10, 12, LONGEST + "1234567", 20);
    }

    /** The same, ahead of its searches: a Model takes long for them. */
    Sample unsearched() {
        return new Sample(name, clocks, faults, works, balls, page, 0);
    }

    static List<Sample> all() {
        return List.of(empty(), some(), fullWithClock(), full());
    }

    String name() {
        return name;
    }

    int clocks() {
        return clocks;
    }

    int faults() {
        return faults;
    }

    int works() {
        return works;
    }

    int searches() {
        return searches;
    }

    String page() {
        return page;
    }

    boolean hasImage() {
        return hasImage;
    }

    /** How many VESSELS a CLOCK has; 0, if there is no such CLOCK. */
    int vesselsOf(long clock) {
        return clock >= 0 && clock < clocks ? VESSELS[(int) clock] : 0;
    }

    int marksOf(long clock) {
        return clock >= 0 && clock < clocks ? MARKS[(int) clock] : 0;
    }

    int warmthOf(int season) {
        return clocks == 0 ? 100 : 50 + 25 * season;
    }

    int daylightOf(int season) {
        return clocks == 0 ? 48 : 72 - 11 * season;
    }

    int head() {
        return works - 1;
    }

    /** What THE LOG tells of a BALL. */
    int logOf(int ball) {
        return ball < balls ? 96 - 5 * ball : NONE;
    }

    int[] fault(int number) {
        return FAULTS[number].clone();
    }

    int[] work(int number) {
        return WORKS[number].clone();
    }

    DroppingBalls make() {
        DroppingBalls x = new DroppingBalls();
        for (Call c : calls()) {
            c.on(x);
        }
        return x;
    }

    Model model() {
        Model model = new Model();
        for (Call c : calls()) {
            c.on(model);
        }
        return model;
    }

    /** The calls that make it: the IMAGE is of other numbers than those that it has at last. */
    List<Call> calls() {
        List<Call> calls = new ArrayList<>();
        for (int i = 0; i < clocks; i++) {
            type(calls, CLOCKS[i]);
            calls.add(new Call("clock"));
        }
        for (int i = 0; i < faults; i++) {
            calls.add(new Call("faulty", FAULTS[i][0], FAULTS[i][1], FAULTS[i][2], FAULTS[i][3]));
        }
        for (int i = 0; i < works; i++) {
            calls.add(new Call("work", WORKS[i][0], WORKS[i][1], WORKS[i][2]));
        }
        if (hasImage) {
            calls.add(new Call("season", 2, 0, 60));
            calls.add(new Call("season", 3, 1, 30));
            calls.add(new Call("log", 1, 11));
            calls.add(new Call("head", 0));
            calls.add(new Call("image"));
        }
        addSettings(calls);
        type(calls, page);
        for (int i = 0; i < searches; i++) {
            calls.add(i % 2 == 0 ? new Call("sought", 0, 0, 1, 0, 0) : new Call("lost", 0, 0, 0, 0));
        }
        return calls;
    }

    private void addSettings(List<Call> calls) {
        for (int s = 0; s < 4 && clocks > 0; s++) {
            calls.add(new Call("season", s, 0, warmthOf(s)));
            calls.add(new Call("season", s, 1, daylightOf(s)));
        }
        for (int ball = 0; ball < balls; ball++) {
            calls.add(new Call("log", ball, logOf(ball)));
        }
        if (works > 0) {
            calls.add(new Call("head", head()));
        }
    }

    private static void type(List<Call> calls, String text) {
        for (int start = 0; start < text.length(); start += 8) {
            calls.add(new Call("letters", Check.packed(text.substring(start, Math.min(text.length(), start + 8)))));
        }
    }
}
