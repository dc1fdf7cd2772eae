import java.util.Arrays;

/**
 * Water clocks that drop balls: vessels with holes drip, one above the other, into a cylinder
 * with a float. The promises are numbered in ../shared/DOC.md; words in capitals are its terms.
 */
public final class DroppingBalls {
    public static final int NONE = -1, UNKNOWN = -101, OUTSIDE = -102, STATE = -103, FULL = -104;

    /** What error() tells for UNKNOWN, since an ERROR may be below 0 itself. */
    private static final int ERROR_UNKNOWN = -1001;

    private static final int MOST_CLOCKS = 4;
    private static final int MOST_FAULTS = 8;
    private static final int MOST_WORKS = 10;
    private static final int MOST_VESSELS = 3;
    private static final int MOST_BALLS = 12;
    private static final int MOST_LETTERS = 80;
    private static final int MOST_CODE = 126;
    private static final int MOST_SEARCHES = 20;

    private static final int SEASONS = 4;
    private static final int TICKS = 96;
    /** Stands in THE LOG and in an ERROR for the TICK of a BALL that does not drop. */
    private static final int NEVER = 96;
    private static final int LAST_DAY = 60;

    private static final int LEAST_WARMTH = 50;
    private static final int MOST_WARMTH = 150;
    private static final int FIRST_WARMTH = 100;
    private static final int LEAST_DAYLIGHT = 24;
    private static final int MOST_DAYLIGHT = 72;
    private static final int FIRST_DAYLIGHT = 48;

    private static final int MOST_AREA = 30;
    private static final int MOST_HEIGHT = 60;
    private static final int MOST_HOLE = 40;
    private static final int MOST_SUPPLY = 60;
    /** AREA and HEIGHT of a CYLINDER, and MARKS. */
    private static final int MOST_OF_CYLINDER = 99;

    private static final int PLAIN_FAULT = 0;
    private static final int CLOG = 1;
    private static final int WEAR = 2;
    private static final int LEAK = 3;
    private static final int COLD = 4;
    private static final int MOST_FAULT_NUMBER = 20;

    private static final int PLAIN_WORK = 0;
    private static final int GONG = 1;
    private static final int FIGURE = 2;
    private static final int CRANK = 3;
    private static final int COUNT = 4;
    private static final int LAST_KIND = 4;
    private static final int DOORS = 4;
    private static final int FIGURES_TOLD = 20;

    private static final int FIRST_DIGEST = 409;

    private final Clock[] clocks = new Clock[MOST_CLOCKS];
    private final Fault[] faults = new Fault[MOST_FAULTS];
    private final Work[] works = new Work[MOST_WORKS];
    private int clockCount;
    private int faultCount;
    private int workCount;

    private final Page page = new Page();
    private final Setting setting = new Setting();
    private final Setting image = new Setting();
    private boolean hasImage;
    private int searches;

    /** Rows made once, so that no call makes objects of its own but those that are kept. */
    private final Clock spareClock = new Clock();
    private final Fault noFault = new Fault();
    private final Fault trialFault = new Fault();
    private final Run run = new Run(spareClock, noFault);
    private final Run trialRun = new Run(spareClock, noFault);
    private final Play play = new Play();
    private final Evidence evidence = new Evidence();
    private final int[] worstFound = new int[3];

    public DroppingBalls() {
    }

    // ---- clocks

    public int letters(long w) {
        int more = lettersIn(w);
        if (more == NONE) {
            return OUTSIDE;
        }
        if (page.length + more > MOST_LETTERS) {
            return FULL;
        }
        for (int i = 0; i < more; i++) {
            page.add((char) byteOf(w, i));
        }
        return page.length;
    }

    public int blank() {
        int had = page.length;
        page.length = 0;
        return had;
    }

    public int fault() {
        page.readClock(spareClock);
        return page.place;
    }

    public int clock() {
        if (!page.readClock(spareClock)) {
            return STATE;
        }
        if (clockCount >= MOST_CLOCKS) {
            return FULL;
        }
        Clock made = new Clock();
        made.copyFrom(spareClock);
        clocks[clockCount] = made;
        clockCount++;
        page.length = 0;
        return clockCount - 1;
    }

    public int told(int clock, int what) {
        Clock c = clockOf(clock);
        if (c == null) {
            return UNKNOWN;
        }
        if (isIn(what, 0, 4)) {
            return c.measure(what);
        }
        if (isIn(what, 40, 51)) {
            return c.markOf(what - 40);
        }
        if (!isIn(what, 10, 32) || what % 10 > 2) {
            return OUTSIDE;
        }
        return c.vesselMeasure(what / 10 - 1, what % 10);
    }

    public int season(int season, int what, int v) {
        if (!isSeason(season)) {
            return UNKNOWN;
        }
        if (what == 0 && isIn(v, LEAST_WARMTH, MOST_WARMTH)) {
            return exchange(setting.warmth, season, v);
        }
        if (what == 1 && isIn(v, LEAST_DAYLIGHT, MOST_DAYLIGHT)) {
            return exchange(setting.daylight, season, v);
        }
        return OUTSIDE;
    }

    // ---- faults, works

    public int faulty(int kind, int vessel, int n, int from) {
        if (!isKind(kind) || !isIn(vessel, 0, MOST_VESSELS - 1)
                || !isIn(n, 1, MOST_FAULT_NUMBER) || !isTick(from)) {
            return OUTSIDE;
        }
        if (faultCount >= MOST_FAULTS) {
            return FULL;
        }
        Fault made = new Fault();
        made.become(kind, vessel, n, from);
        faults[faultCount] = made;
        faultCount++;
        return faultCount - 1;
    }

    public int as(int fault, int kind) {
        if (!isIn(fault, 0, faultCount - 1)) {
            return UNKNOWN;
        }
        if (!isKind(kind)) {
            return OUTSIDE;
        }
        Fault f = faultOf(fault);
        return f != null && isFaultOfKind(f.kind, kind) ? fault : NONE;
    }

    public int work(int kind, int n, int next) {
        if (!isKind(kind) || !isIn(n, leastNumber(kind), mostNumber(kind))) {
            return OUTSIDE;
        }
        if (!isWorkOrNone(next)) {
            return UNKNOWN;
        }
        if (workCount >= MOST_WORKS) {
            return FULL;
        }
        works[workCount] = new Work(workCount, kind, n, workOf(next));
        workCount++;
        return workCount - 1;
    }

    public int workAs(int work, int kind) {
        Work w = workOf(work);
        if (w == null) {
            return UNKNOWN;
        }
        if (!isKind(kind)) {
            return OUTSIDE;
        }
        return isWorkOfKind(w.kind, kind) ? work : NONE;
    }

    public int head(int work) {
        if (!isWorkOrNone(work)) {
            return UNKNOWN;
        }
        int was = setting.head;
        setting.head = work;
        return was;
    }

    // ---- a run

    public int drops(int clock, int season, int fault, int ball) {
        if (!startRun(clock, season, fault) || !run.clock.hasBall(ball)) {
            return UNKNOWN;
        }
        run.goOnTo(TICKS);
        return run.tickOf(ball);
    }

    public int error(int clock, int season, int fault, int ball) {
        if (!startRun(clock, season, fault) || !run.clock.hasBall(ball)) {
            return ERROR_UNKNOWN;
        }
        run.goOnTo(TICKS);
        return run.errorOf(ball, daylightOf(season));
    }

    public int at(int clock, int season, int fault, int tick, int what) {
        if (!startRun(clock, season, fault)) {
            return UNKNOWN;
        }
        if (!isTick(tick) || !isIn(what, 0, 7)) {
            return OUTSIDE;
        }
        run.goOnTo(tick + 1);
        return run.measure(what);
    }

    public int even(int clock, int season, int fault, int what) {
        if (!startRun(clock, season, fault)) {
            return UNKNOWN;
        }
        if (!isIn(what, 0, 1)) {
            return OUTSIDE;
        }
        run.goOnTo(TICKS);
        return what == 0 ? run.leastIn : run.mostIn;
    }

    public int mean(int clock, int season, int fault, int part) {
        if (!startRun(clock, season, fault)) {
            return UNKNOWN;
        }
        if (!isIn(part, 0, 1)) {
            return OUTSIDE;
        }
        run.goOnTo(TICKS);
        int sum = 0;
        for (int ball = 0; ball < run.clock.ballCount; ball++) {
            sum += run.errorSize(ball, daylightOf(season));
        }
        int balls = run.clock.ballCount;
        return quotient(part == 0 ? sum : balls, commonMeasure(sum, balls));
    }

    public int shows(int clock, int season, int fault, int what) {
        if (!startRun(clock, season, fault)) {
            return UNKNOWN;
        }
        if (!isIn(what, 0, 3) && !isIn(what, 10, 10 + FIGURES_TOLD - 1)) {
            return OUTSIDE;
        }
        playRun();
        return what < 10 ? play.measure(what) : play.figureOf(what - 10);
    }

    // ---- designs

    public int worst(int clock, int what) {
        Clock c = clockOf(clock);
        if (c == null) {
            return UNKNOWN;
        }
        if (!isIn(what, 0, 2)) {
            return OUTSIDE;
        }
        findWorst(c);
        return worstFound[what];
    }

    public int better(int clock, int other) {
        Clock first = clockOf(clock);
        Clock second = clockOf(other);
        if (first == null || second == null) {
            return UNKNOWN;
        }
        findWorst(first);
        int worstOfFirst = worstFound[0];
        findWorst(second);
        return worstFound[0] < worstOfFirst ? other : clock;
    }

    public int mark(int clock, int season, int hour) {
        if (!startRun(clock, season, NONE) || !run.clock.hasBall(hour)) {
            return UNKNOWN;
        }
        int trueTick = run.clock.trueTick(hour, daylightOf(season));
        run.goOnTo(trueTick);
        int levelAhead = run.levelWithoutSiphon();
        run.goOnTo(trueTick + 1);
        boolean rises = run.levelWithoutSiphon() > levelAhead;
        return rises && levelAhead < MOST_OF_CYLINDER ? levelAhead + 1 : NONE;
    }

    public int mended(int clock, int season, int vessel, int days, int t) {
        Clock c = clockOf(clock);
        if (c == null || !isSeason(season)) {
            return UNKNOWN;
        }
        if (!isIn(vessel, 0, MOST_VESSELS - 1) || !isIn(days, 1, 30) || !isIn(t, 0, NEVER)) {
            return OUTSIDE;
        }
        // Between two days of wear nothing changes, so the first of them tells of all.
        spareClock.copyFrom(c);
        for (int worn = 0; worn <= LAST_DAY && worn * days <= LAST_DAY; worn++) {
            run.start(spareClock, warmthOf(season), noFault);
            run.goOnTo(TICKS);
            if (run.hasErrorAbove(t, daylightOf(season))) {
                return worn * days;
            }
            spareClock.widen(vessel);
        }
        return NONE;
    }

    // ---- logs

    public int log(int ball, int tick) {
        if (!isIn(ball, 0, MOST_BALLS - 1)) {
            return UNKNOWN;
        }
        if (!isIn(tick, NONE, NEVER)) {
            return OUTSIDE;
        }
        return exchange(setting.log, ball, tick);
    }

    public int agrees(int clock, int season, int fault) {
        if (!startRun(clock, season, fault)) {
            return UNKNOWN;
        }
        evidence.gather(setting.log, run.clock.ballCount);
        return agreesFromHere(run) ? 1 : 0;
    }

    public int which(int clock, int season) {
        if (!startRun(clock, season, NONE)) {
            return UNKNOWN;
        }
        evidence.gather(setting.log, run.clock.ballCount);
        int bits = agreesFromHere(run) ? 1 << MOST_FAULTS : 0;
        for (int fault = 0; fault < faultCount; fault++) {
            if (startRun(clock, season, fault) && agreesFromHere(run)) {
                bits |= 1 << fault;
            }
        }
        return bits;
    }

    public int sought(int clock, int season, int kind, int vessel, int what) {
        if (!startRun(clock, season, NONE)) {
            return UNKNOWN;
        }
        if (!isIn(kind, CLOG, COLD) || !isIn(vessel, 0, MOST_VESSELS - 1) || !isIn(what, 0, 3)) {
            return OUTSIDE;
        }
        if (searches >= MOST_SEARCHES) {
            return STATE;
        }
        searches++;
        evidence.gather(setting.log, run.clock.ballCount);
        return seekFault(kind, vessel, what);
    }

    public int lost(int clock, int season, int vessel, int what) {
        Clock c = clockOf(clock);
        if (c == null || !isSeason(season)) {
            return UNKNOWN;
        }
        if (!c.hasVessel(vessel) || !isIn(what, 0, 2)) {
            return OUTSIDE;
        }
        if (searches >= MOST_SEARCHES) {
            return STATE;
        }
        searches++;
        evidence.gather(setting.log, c.ballCount);
        spareClock.copyFrom(c);
        return seekClock(warmthOf(season), vessel, what);
    }

    // ---- records

    public int span(int clock, int season, int fault, int ball, int what) {
        if (!startRun(clock, season, fault) || !isBallOrNone(run.clock, ball)) {
            return UNKNOWN;
        }
        if (!isIn(what, 0, 1)) {
            return OUTSIDE;
        }
        run.goOnTo(TICKS);
        if (!run.hasSpan(ball)) {
            return NONE;
        }
        return what == 0 ? run.spanFirst(ball) : run.spanLast(ball);
    }

    public int record(int clock, int season, int ball, int sky, int what) {
        if (!startRun(clock, season, NONE) || !isBallOrNone(run.clock, ball)) {
            return UNKNOWN;
        }
        if (!isTick(sky) || !isIn(what, 0, 1)) {
            return OUTSIDE;
        }
        if (what == 0) {
            return holdsInRun(ball, sky) ? 1 : 0;
        }
        for (int fault = 0; fault < faultCount; fault++) {
            if (startRun(clock, season, fault) && holdsInRun(ball, sky)) {
                return fault;
            }
        }
        return NONE;
    }

    // ---- what is told

    public int image() {
        image.copyFrom(setting);
        hasImage = true;
        return setting.ballsTold();
    }

    public int restore() {
        if (!hasImage) {
            return STATE;
        }
        setting.copyFrom(image);
        return setting.ballsTold();
    }

    public int count(int what) {
        switch (what) {
            case 0: return clockCount;
            case 1: return faultCount;
            case 2: return workCount;
            case 3: return page.length;
            case 4: return setting.ballsTold();
            case 5: return searches;
            default: return OUTSIDE;
        }
    }

    public long digest() {
        long h = FIRST_DIGEST;
        for (int season = 0; season < SEASONS; season++) {
            h = mixed(mixed(h, warmthOf(season)), daylightOf(season));
        }
        for (int i = 0; i < clockCount; i++) {
            h = mixedClock(h, i);
        }
        for (int i = 0; i < faultCount; i++) {
            h = mixedFault(h, faultOf(i));
        }
        for (int i = 0; i < workCount; i++) {
            h = mixedWork(h, workOf(i));
        }
        h = mixed(h, setting.head);
        for (int ball = 0; ball < MOST_BALLS; ball++) {
            h = mixed(h, setting.log[ball]);
        }
        for (int i = 0; i < page.length; i++) {
            h = mixed(h, page.codeAt(i));
        }
        for (int what = 0; what <= 5; what++) {
            h = mixed(h, count(what));
        }
        return h;
    }

    // ---- parts of the digest

    private static long mixed(long h, long number) {
        return 31 * h + number;
    }

    private long mixedClock(long h, int clock) {
        if (!startRun(clock, 0, NONE)) {
            return h;
        }
        Clock c = run.clock;
        for (int what = 0; what <= 4; what++) {
            h = mixed(h, c.measure(what));
        }
        for (int v = 0; v < c.vesselCount; v++) {
            for (int what = 0; what <= 2; what++) {
                h = mixed(h, c.vesselMeasure(v, what));
            }
        }
        for (int ball = 0; ball < c.ballCount; ball++) {
            h = mixed(h, c.markOf(ball));
        }
        playRun();
        for (int ball = 0; ball < c.ballCount; ball++) {
            h = mixed(h, run.tickOf(ball));
        }
        for (int what = 0; what <= 3; what++) {
            h = mixed(h, play.measure(what));
        }
        return h;
    }

    private static long mixedFault(long h, Fault f) {
        if (f == null) {
            return h;
        }
        return mixed(mixed(mixed(mixed(h, f.kind), f.vessel), f.n), f.from);
    }

    private static long mixedWork(long h, Work w) {
        if (w == null) {
            return h;
        }
        return mixed(mixed(mixed(h, w.kind), w.n), w.next == null ? NONE : w.next.number);
    }

    // ---- runs

    /** Sets the run ahead of TICK 0; false, if a number names nothing. */
    private boolean startRun(int clock, int season, int fault) {
        Clock c = clockOf(clock);
        Fault f = fault == NONE ? noFault : faultOf(fault);
        if (c == null || f == null || !isSeason(season)) {
            return false;
        }
        run.start(c, warmthOf(season), f);
        return true;
    }

    private void playRun() {
        Work head = workOf(setting.head);
        play.start();
        for (int tick = 0; tick < TICKS; tick++) {
            int droppedAhead = run.dropped;
            run.advance();
            play.goThrough(tick, run.dropped - droppedAhead, head);
        }
    }

    /** WORST is three numbers, in the order in which worst() tells them: they go into a row kept for it. */
    private void findWorst(Clock c) {
        worstFound[0] = NONE;
        for (int season = 0; season < SEASONS; season++) {
            run.start(c, warmthOf(season), noFault);
            run.goOnTo(TICKS);
            for (int ball = 0; ball < c.ballCount; ball++) {
                int size = run.errorSize(ball, daylightOf(season));
                if (size > worstFound[0]) {
                    worstFound[0] = size;
                    worstFound[1] = season;
                    worstFound[2] = ball;
                }
            }
        }
    }

    private boolean holdsInRun(int ball, int sky) {
        run.goOnTo(TICKS);
        return run.hasSpan(ball) && isIn(sky, run.spanFirst(ball), run.spanLast(ball));
    }

    // ---- searches by THE LOG

    /** Whether a run, which has not gone against the evidence yet, goes on in line with it. */
    private boolean agreesFromHere(Run r) {
        if (evidence.isImpossible) {
            return false;
        }
        for (int tick = r.tick; tick <= evidence.lastTick; tick++) {
            r.advance();
            if (!evidence.allows(tick, r.dropped)) {
                return false;
            }
        }
        return true;
    }

    /**
     * SOUGHT, from the run ahead of TICK 0. Ahead of the TICK from which a FAULT is, its run is
     * the one without: so that one goes on tick by tick, and each trial starts from where it is.
     */
    private int seekFault(int kind, int vessel, int what) {
        int found = 0;
        int leastN = NONE;
        int leastFrom = NONE;
        int greatestN = NONE;
        boolean inLine = !evidence.isImpossible;
        for (int from = 0; from < TICKS && inLine; from++) {
            for (int n = 1; n <= MOST_FAULT_NUMBER; n++) {
                trialFault.become(kind, vessel, n, from);
                trialRun.branchFrom(run, trialFault);
                if (agreesFromHere(trialRun)) {
                    found++;
                    greatestN = Math.max(greatestN, n);
                    if (leastN == NONE || n < leastN) {
                        leastN = n;
                        leastFrom = from;
                    }
                }
            }
            run.advance();
            inLine = from > evidence.lastTick || evidence.allows(from, run.dropped);
        }
        switch (what) {
            case 0: return found;
            case 1: return leastN;
            case 2: return leastFrom;
            default: return greatestN;
        }
    }

    /** LOST, of the CLOCK that stands in the spare one. */
    private int seekClock(int warmth, int vessel, int what) {
        int found = 0;
        int firstHole = NONE;
        int firstSupply = NONE;
        for (int hole = 1; hole <= MOST_HOLE; hole++) {
            for (int supply = 0; supply <= MOST_SUPPLY; supply++) {
                spareClock.guess(vessel, hole, supply);
                run.start(spareClock, warmth, noFault);
                if (agreesFromHere(run)) {
                    if (found == 0) {
                        firstHole = hole;
                        firstSupply = supply;
                    }
                    found++;
                }
            }
        }
        switch (what) {
            case 0: return found;
            case 1: return firstHole;
            default: return firstSupply;
        }
    }

    // ---- numbers and what they name

    private static boolean isIn(int v, int least, int most) {
        return v >= least && v <= most;
    }

    private static boolean isSeason(int season) {
        return isIn(season, 0, SEASONS - 1);
    }

    private static boolean isTick(int tick) {
        return isIn(tick, 0, TICKS - 1);
    }

    private static boolean isKind(int kind) {
        return isIn(kind, 0, LAST_KIND);
    }

    private boolean isWorkOrNone(int work) {
        return isIn(work, NONE, workCount - 1);
    }

    private static boolean isBallOrNone(Clock c, int ball) {
        return ball == NONE || c.hasBall(ball);
    }

    private Clock clockOf(int clock) {
        return isIn(clock, 0, clockCount - 1) && clock < MOST_CLOCKS ? clocks[clock] : null;
    }

    private Fault faultOf(int fault) {
        return isIn(fault, 0, faultCount - 1) && fault < MOST_FAULTS ? faults[fault] : null;
    }

    private Work workOf(int work) {
        return isIn(work, 0, workCount - 1) && work < MOST_WORKS ? works[work] : null;
    }

    private int warmthOf(int season) {
        return isSeason(season) ? setting.warmth[season] : FIRST_WARMTH;
    }

    private int daylightOf(int season) {
        return isSeason(season) ? setting.daylight[season] : FIRST_DAYLIGHT;
    }

    /** A WEAR is a CLOG, too. */
    private static boolean isFaultOfKind(int own, int kind) {
        return kind == PLAIN_FAULT || kind == own || own == WEAR && kind == CLOG;
    }

    /** A COUNT is a CRANK, too. */
    private static boolean isWorkOfKind(int own, int kind) {
        return kind == PLAIN_WORK || kind == own || own == COUNT && kind == CRANK;
    }

    private static int leastNumber(int workKind) {
        switch (workKind) {
            case CRANK: return 1;
            case COUNT: return 2;
            default: return 0;
        }
    }

    private static int mostNumber(int workKind) {
        switch (workKind) {
            case GONG: return 9;
            case FIGURE: return DOORS - 1;
            case CRANK: return 9;
            case COUNT: return 5;
            default: return 0;
        }
    }

    // ---- small sums

    private static int quotient(int above, int below) {
        return below < 1 ? 0 : above / below;
    }

    /** The greatest number that measures both; the loop's bound is far above Euclid's need. */
    private static int commonMeasure(int a, int b) {
        int greater = a;
        int lesser = b;
        for (int i = 0; i < 100 && lesser > 0; i++) {
            int rest = greater % lesser;
            greater = lesser;
            lesser = rest;
        }
        return greater;
    }

    private static int exchange(int[] row, int place, int v) {
        if (!isIn(place, 0, row.length - 1)) {
            return NONE;
        }
        int was = row[place];
        row[place] = v;
        return was;
    }

    private static int byteOf(long w, int i) {
        return (int) (w >>> 8 * i) & 255;
    }

    /** How many letters stand in the bytes of w; NONE, if a byte is none that may stand there. */
    private static int lettersIn(long w) {
        int more = 0;
        for (int i = 0; i < 8; i++) {
            int code = byteOf(w, i);
            boolean isBehindNought = code != 0 && more < i;
            if (code > MOST_CODE || isBehindNought) {
                return NONE;
            }
            if (code != 0) {
                more++;
            }
        }
        return more;
    }

    /** A CLOCK. Its rows have room for the most VESSELS and MARKS, so that one can be copied into another. */
    private static final class Clock {
        int vesselCount;
        final int[] area = new int[MOST_VESSELS];
        final int[] height = new int[MOST_VESSELS];
        final int[] hole = new int[MOST_VESSELS];
        final int[] full = new int[MOST_VESSELS];
        int cylinderArea;
        int cylinderHeight;
        int supply;
        int ballCount;
        final int[] marks = new int[MOST_BALLS];

        void copyFrom(Clock other) {
            vesselCount = other.vesselCount;
            for (int v = 0; v < MOST_VESSELS; v++) {
                area[v] = other.area[v];
                height[v] = other.height[v];
                hole[v] = other.hole[v];
                full[v] = other.full[v];
            }
            cylinderArea = other.cylinderArea;
            cylinderHeight = other.cylinderHeight;
            supply = other.supply;
            ballCount = other.ballCount;
            for (int i = 0; i < MOST_BALLS; i++) {
                marks[i] = other.marks[i];
            }
        }

        boolean hasVessel(int v) {
            return v >= 0 && v < vesselCount && v < MOST_VESSELS;
        }

        boolean hasBall(int ball) {
            return ball >= 0 && ball < ballCount && ball < MOST_BALLS;
        }

        void addVessel(int itsArea, int itsHeight, int itsHole) {
            if (vesselCount < MOST_VESSELS) {
                area[vesselCount] = itsArea;
                height[vesselCount] = itsHeight;
                hole[vesselCount] = itsHole;
                full[vesselCount] = itsArea * itsHeight;
                vesselCount++;
            }
        }

        void addMark(int m) {
            if (ballCount < MOST_BALLS) {
                marks[ballCount] = m;
                ballCount++;
            }
        }

        void widen(int v) {
            if (hasVessel(v)) {
                hole[v]++;
            }
        }

        void guess(int v, int itsHole, int itsSupply) {
            supply = itsSupply;
            if (hasVessel(v)) {
                hole[v] = itsHole;
            }
        }

        int measure(int what) {
            switch (what) {
                case 0: return vesselCount;
                case 1: return cylinderArea;
                case 2: return cylinderHeight;
                case 3: return supply;
                default: return ballCount;
            }
        }

        int vesselMeasure(int v, int what) {
            if (!hasVessel(v)) {
                return NONE;
            }
            switch (what) {
                case 0: return area[v];
                case 1: return height[v];
                default: return hole[v];
            }
        }

        int markOf(int ball) {
            return hasBall(ball) ? marks[ball] : NONE;
        }

        int trueTick(int hour, int daylight) {
            return quotient((hour + 1) * daylight, ballCount);
        }
    }

    /** THE PAGE, and how far it is a CLOCK. */
    private static final class Page {
        final char[] letters = new char[MOST_LETTERS];
        int length;
        /** Where reading stands: behind a reading, the first letter that did not fit, or the end. */
        int place;

        void add(char letter) {
            if (length >= 0 && length < MOST_LETTERS) {
                letters[length] = letter;
                length++;
            }
        }

        int codeAt(int i) {
            return i >= 0 && i < length && i < MOST_LETTERS ? letters[i] : NONE;
        }

        /** Whether all of it is a CLOCK, which then stands in c. */
        boolean readClock(Clock c) {
            place = 0;
            c.vesselCount = 0;
            c.ballCount = 0;
            return readVessels(c) && readCylinder(c) && readSupply(c) && readMarks(c)
                    && place == length;
        }

        private boolean readVessels(Clock c) {
            boolean more = true;
            for (int v = 0; v < MOST_VESSELS && more; v++) {
                if (!readVessel(c)) {
                    return false;
                }
                more = v + 1 < MOST_VESSELS && readSign('>');
            }
            return true;
        }

        private boolean readVessel(Clock c) {
            int area = readNumber(1, MOST_AREA);
            if (area == NONE || !readSign('x')) {
                return false;
            }
            int height = readNumber(1, MOST_HEIGHT);
            if (height == NONE || !readSign('h')) {
                return false;
            }
            int hole = readNumber(1, MOST_HOLE);
            if (hole == NONE) {
                return false;
            }
            c.addVessel(area, height, hole);
            return true;
        }

        private boolean readCylinder(Clock c) {
            if (!readSign('=')) {
                return false;
            }
            c.cylinderArea = readNumber(1, MOST_OF_CYLINDER);
            if (c.cylinderArea == NONE || !readSign('x')) {
                return false;
            }
            c.cylinderHeight = readNumber(1, MOST_OF_CYLINDER);
            return c.cylinderHeight != NONE;
        }

        private boolean readSupply(Clock c) {
            if (!readSign(';') || !readSign('s')) {
                return false;
            }
            c.supply = readNumber(0, MOST_SUPPLY);
            return c.supply != NONE;
        }

        private boolean readMarks(Clock c) {
            if (!readSign(';') || !readSign('m')) {
                return false;
            }
            int last = 0;
            boolean more = true;
            for (int i = 0; i < MOST_BALLS && more; i++) {
                last = readNumber(last + 1, MOST_OF_CYLINDER);
                if (last == NONE) {
                    return false;
                }
                c.addMark(last);
                // A comma fits only where a greater MARK can stand behind it.
                more = i + 1 < MOST_BALLS && last < MOST_OF_CYLINDER && readSign(',');
            }
            return true;
        }

        private boolean readSign(char sign) {
            if (codeAt(place) != sign) {
                return false;
            }
            place++;
            return true;
        }

        /**
         * A number of one or two figures; NONE, if none stands here. A figure is passed over
         * only if a number from least to most has it there, so that the place tells the fault.
         */
        private int readNumber(int least, int most) {
            int first = figureHere();
            if (first == NONE || !canStart(first, least, most)) {
                return NONE;
            }
            place++;
            int second = figureHere();
            int both = 10 * first + second;
            if (first > 0 && second != NONE && isIn(both, least, most)) {
                place++;
                return both;
            }
            return first >= least ? first : NONE;
        }

        private static boolean canStart(int first, int least, int most) {
            boolean alone = isIn(first, least, most);
            boolean withOther = first > 0 && 10 * first <= most && 10 * first + 9 >= least;
            return alone || withOther;
        }

        private int figureHere() {
            int code = codeAt(place);
            return isIn(code, '0', '9') ? code - '0' : NONE;
        }
    }

    /** A FAULT. One of KIND 0 stands for none in a RUN, since it does nothing. */
    private static final class Fault {
        int kind = PLAIN_FAULT;
        int vessel;
        int n;
        int from;

        void become(int itsKind, int itsVessel, int itsNumber, int itsTick) {
            kind = itsKind;
            vessel = itsVessel;
            n = itsNumber;
            from = itsTick;
        }

        int holeOf(int hole, int v, int tick) {
            if (vessel != v || tick < from) {
                return hole;
            }
            switch (kind) {
                case CLOG: return Math.max(0, hole - n);
                case WEAR: return hole + n;
                default: return hole;
            }
        }

        int warmthOf(int warmth, int tick) {
            return kind == COLD && tick >= from ? warmth - n : warmth;
        }

        int leakAt(int tick) {
            return kind == LEAK && tick >= from ? n : 0;
        }
    }

    /** A WORK. The one that it strikes was told ahead of it, so that each chain of them ends. */
    private static final class Work {
        final int number;
        final int kind;
        final int n;
        final Work next;

        Work(int number, int kind, int n, Work next) {
            this.number = number;
            this.kind = kind;
            this.n = n;
            this.next = next;
        }
    }

    /** A RUN: how the water stands behind so many TICKS of a DAY. */
    private static final class Run {
        Clock clock;
        Fault fault;
        int warmth;
        /** The TICK that comes next. */
        int tick;
        final int[] water = new int[MOST_VESSELS];
        int cylinder;
        /** All that came into the CYLINDER, whatever the SIPHON took. */
        int poured;
        int ranOver;
        int leaked;
        int emptied;
        /** MARKS rise, so the BALLS that have dropped are the first ones. */
        int dropped;
        final int[] dropTicks = new int[MOST_BALLS];
        int leastIn;
        int mostIn;

        Run(Clock clock, Fault fault) {
            this.clock = clock;
            this.fault = fault;
        }

        void start(Clock itsClock, int itsWarmth, Fault itsFault) {
            clock = itsClock;
            fault = itsFault;
            warmth = itsWarmth;
            tick = 0;
            for (int v = 0; v < MOST_VESSELS; v++) {
                water[v] = clock.full[v];
            }
            cylinder = 0;
            poured = 0;
            ranOver = 0;
            leaked = 0;
            emptied = 0;
            dropped = 0;
            Arrays.fill(dropTicks, NONE);
            leastIn = 0;
            mostIn = 0;
        }

        /** All is taken over but the FAULT, since the other run goes on without it. */
        void branchFrom(Run other, Fault itsFault) {
            clock = other.clock;
            fault = itsFault;
            warmth = other.warmth;
            tick = other.tick;
            for (int v = 0; v < MOST_VESSELS; v++) {
                water[v] = other.water[v];
            }
            cylinder = other.cylinder;
            poured = other.poured;
            ranOver = other.ranOver;
            leaked = other.leaked;
            emptied = other.emptied;
            dropped = other.dropped;
            for (int i = 0; i < MOST_BALLS; i++) {
                dropTicks[i] = other.dropTicks[i];
            }
            leastIn = other.leastIn;
            mostIn = other.mostIn;
        }

        void goOnTo(int end) {
            for (int t = tick; t < end; t++) {
                advance();
            }
        }

        void advance() {
            drip();
            leak();
            dropBalls();
            siphon();
            tick++;
        }

        private void drip() {
            int warmthNow = fault.warmthOf(warmth, tick);
            int flow = clock.supply;
            for (int v = 0; v < clock.vesselCount && v < MOST_VESSELS; v++) {
                int held = water[v] + flow;
                if (held > clock.full[v]) {
                    ranOver += held - clock.full[v];
                    held = clock.full[v];
                }
                int level = quotient(held, clock.area[v]);
                int hole = fault.holeOf(clock.hole[v], v, tick);
                flow = Math.min(held, hole * level * warmthNow / 1000);
                water[v] = held - flow;
            }
            cylinder += flow;
            poured += flow;
            leastIn = tick == 0 ? flow : Math.min(leastIn, flow);
            mostIn = Math.max(mostIn, flow);
        }

        private void leak() {
            int v = fault.vessel;
            if (clock.hasVessel(v)) {
                int gone = Math.min(water[v], fault.leakAt(tick));
                water[v] -= gone;
                leaked += gone;
            }
        }

        private void dropBalls() {
            int level = quotient(cylinder, clock.cylinderArea);
            for (int ball = dropped; ball < clock.ballCount && ball < MOST_BALLS; ball++) {
                if (clock.marks[ball] > level) {
                    return;
                }
                dropTicks[ball] = tick;
                dropped++;
            }
        }

        private void siphon() {
            int level = quotient(cylinder, clock.cylinderArea);
            if (level >= clock.cylinderHeight && dropped >= clock.ballCount) {
                cylinder = 0;
                emptied++;
            }
        }

        int levelWithoutSiphon() {
            return quotient(poured, clock.cylinderArea);
        }

        int tickOf(int ball) {
            return clock.hasBall(ball) ? dropTicks[ball] : NONE;
        }

        int errorOf(int ball, int daylight) {
            int t = tickOf(ball);
            return (t == NONE ? NEVER : t) - clock.trueTick(ball, daylight);
        }

        int errorSize(int ball, int daylight) {
            return Math.abs(errorOf(ball, daylight));
        }

        boolean hasErrorAbove(int most, int daylight) {
            for (int ball = 0; ball < clock.ballCount; ball++) {
                if (errorSize(ball, daylight) > most) {
                    return true;
                }
            }
            return false;
        }

        int spanFirst(int ball) {
            return ball == NONE ? 0 : tickOf(ball);
        }

        int spanLast(int ball) {
            int behind = tickOf(ball + 1);
            return behind == NONE ? TICKS - 1 : behind - 1;
        }

        boolean hasSpan(int ball) {
            int first = spanFirst(ball);
            return first != NONE && first <= spanLast(ball);
        }

        int measure(int what) {
            switch (what) {
                case 3: return cylinder;
                case 4: return dropped;
                case 5: return ranOver;
                case 6: return leaked;
                case 7: return emptied;
                default: return clock.hasVessel(what) ? water[what] : NONE;
            }
        }
    }

    /** What WORKS do in a RUN. */
    private static final class Play {
        final int[] timesStruck = new int[MOST_WORKS];
        final boolean[] stuck = new boolean[MOST_WORKS];
        final int[] doorFreeFrom = new int[DOORS];
        /** CRANKS in the order in which they were struck, with the TICK on which each strikes on. */
        final Work[] cranks = new Work[MOST_BALLS * MOST_WORKS];
        final int[] crankTicks = new int[MOST_BALLS * MOST_WORKS];
        int crankCount;
        final int[] cameOut = new int[FIGURES_TOLD];
        int outCount;
        int ballsStruck;
        int strokes;
        int firstStuck;
        int stuckTick;

        void start() {
            for (int i = 0; i < MOST_WORKS; i++) {
                timesStruck[i] = 0;
                stuck[i] = false;
            }
            Arrays.fill(doorFreeFrom, 0);
            Arrays.fill(cameOut, NONE);
            crankCount = 0;
            outCount = 0;
            ballsStruck = 0;
            strokes = 0;
            firstStuck = NONE;
            stuckTick = NONE;
        }

        void goThrough(int tick, int balls, Work head) {
            // What is struck now strikes on at a later TICK: only the CRANKS struck ahead count.
            int struckAhead = crankCount;
            for (int i = 0; i < struckAhead && i < cranks.length && i < crankTicks.length; i++) {
                if (crankTicks[i] == tick && cranks[i] != null) {
                    strike(cranks[i].next, tick);
                }
            }
            for (int i = 0; i < balls; i++) {
                ballsStruck++;
                strike(head, tick);
            }
        }

        private void strike(Work first, int tick) {
            Work w = first;
            while (w != null && strikesOn(w, tick)) {
                w = w.next;
            }
        }

        /** Does what a WORK does when it is struck; whether it strikes on at once. */
        private boolean strikesOn(Work w, int tick) {
            switch (w.kind) {
                case GONG:
                    strokes += ballsStruck + w.n;
                    return true;
                case FIGURE:
                    return comesOut(w, tick);
                case CRANK:
                    turn(w, tick);
                    return false;
                case COUNT:
                    return isCountedOut(w);
                default:
                    return true;
            }
        }

        private boolean comesOut(Work w, int tick) {
            int work = w.number;
            int door = w.n;
            if (work < 0 || work >= MOST_WORKS || door < 0 || door >= DOORS || stuck[work]) {
                return false;
            }
            if (tick < doorFreeFrom[door]) {
                stuck[work] = true;
                stuckTick = firstStuck == NONE ? tick : stuckTick;
                firstStuck = firstStuck == NONE ? work : firstStuck;
                return false;
            }
            doorFreeFrom[door] = tick + 3;
            if (outCount < FIGURES_TOLD) {
                cameOut[outCount] = work;
            }
            outCount++;
            return true;
        }

        private void turn(Work w, int tick) {
            if (crankCount < cranks.length && crankCount < crankTicks.length) {
                cranks[crankCount] = w;
                crankTicks[crankCount] = tick + w.n;
                crankCount++;
            }
        }

        private boolean isCountedOut(Work w) {
            int work = w.number;
            if (work < 0 || work >= MOST_WORKS || w.n < 1) {
                return false;
            }
            timesStruck[work]++;
            return timesStruck[work] % w.n == 0;
        }

        int measure(int what) {
            switch (what) {
                case 0: return strokes;
                case 1: return outCount;
                case 2: return firstStuck;
                default: return stuckTick;
            }
        }

        int figureOf(int i) {
            return isIn(i, 0, FIGURES_TOLD - 1) ? cameOut[i] : NONE;
        }
    }

    /**
     * What THE LOG asks of a RUN, told by how many BALLS have dropped behind each TICK: BALLS drop
     * in their order, so BALL i dropped on TICK t just if at most i had dropped behind each TICK
     * ahead of t, and more than i from t on.
     */
    private static final class Evidence {
        final int[] least = new int[TICKS];
        final int[] most = new int[TICKS];
        /** The last TICK of which anything is asked; NONE, if nothing is. */
        int lastTick;
        /** THE LOG tells of a BALL that the CLOCK has not. */
        boolean isImpossible;

        void gather(int[] log, int balls) {
            Arrays.fill(least, 0);
            Arrays.fill(most, MOST_BALLS);
            lastTick = NONE;
            isImpossible = false;
            for (int ball = 0; ball < log.length; ball++) {
                if (log[ball] != NONE) {
                    isImpossible = isImpossible || ball >= balls;
                    lastTick = Math.max(lastTick, Math.min(log[ball], TICKS - 1));
                    ask(ball, log[ball]);
                }
            }
        }

        private void ask(int ball, int itsTick) {
            for (int t = 0; t < TICKS; t++) {
                if (t < itsTick) {
                    most[t] = Math.min(most[t], ball);
                } else {
                    least[t] = Math.max(least[t], ball + 1);
                }
            }
        }

        boolean allows(int tick, int dropped) {
            return isTick(tick) && isIn(dropped, least[tick], most[tick]);
        }
    }

    /** What an IMAGE keeps. */
    private static final class Setting {
        final int[] warmth = new int[SEASONS];
        final int[] daylight = new int[SEASONS];
        final int[] log = new int[MOST_BALLS];
        int head = NONE;

        Setting() {
            Arrays.fill(warmth, FIRST_WARMTH);
            Arrays.fill(daylight, FIRST_DAYLIGHT);
            Arrays.fill(log, NONE);
        }

        void copyFrom(Setting other) {
            for (int i = 0; i < SEASONS; i++) {
                warmth[i] = other.warmth[i];
                daylight[i] = other.daylight[i];
            }
            for (int i = 0; i < MOST_BALLS; i++) {
                log[i] = other.log[i];
            }
            head = other.head;
        }

        int ballsTold() {
            int told = 0;
            for (int i = 0; i < MOST_BALLS; i++) {
                if (log[i] != NONE) {
                    told++;
                }
            }
            return told;
        }
    }
}
