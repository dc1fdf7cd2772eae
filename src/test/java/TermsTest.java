/** The document from its first line on: sentences of its terms that name no bound, and how they hold together. */
public final class TermsTest {
    private static final int NONE = DroppingBalls.NONE;
    private static final int UNKNOWN = DroppingBalls.UNKNOWN;
    private static final int ERROR_UNKNOWN = -1001;
    private static final int NEVER = 96;
    private static final int GONG = 1;
    private static final int CLOG = 1;
    private static final int WEAR = 2;

    private TermsTest() {
    }

    public static void main(String[] args) {
        fiveHundredAndTwelveCalls();
        clocksAreTexts();
        seasons();
        theWayOfTheWater();
        theWayOfLessWater();
        errors();
        kindsOfWorks();
        allAreWorks();
        worksStrikeOn();
        kindsOfFaults();
        aFaultDoesNothing();
        allAreFaults();
        runs();
        unknownRuns();
        soughtByFaults();
        lostByClocks();
        worst();
        means();
        bestMarks();
        bestMarksAmongOthers();
        mendedByWear();
        records();
        Check.end();
    }

    /** The last of the calls that an object is used for tells what the first one tells, the dearest ones between them too. */
    private static void fiveHundredAndTwelveCalls() {
        Check.by("An object is used for at most 512 calls after it has been made");
        DroppingBalls x = new DroppingBalls();
        x.letters(Check.packed("30x60h40"));
        x.letters(Check.packed(">30x60h4"));
        x.letters(Check.packed("0=99x99;"));
        x.letters(Check.packed("s60;m1,2"));
        Check.due("clock, call 5", x.clock(), 0);
        for (int call = 6; call <= 25; call++) {
            Check.due("lost, call " + call, x.lost(0, 0, 1, 0), 40 * 61);
        }
        long digest = x.digest();
        for (int call = 27; call <= 511; call++) {
            Check.due("digest, call " + call, x.digest(), digest);
        }
        Check.due("digest, call 512", x.digest(), digest);
    }

    // ---- 1 CLOCKS

    /** A number from least to most, another one for each i and k. */
    private static int mixed(int i, int k, int least, int most) {
        return least + (i * 37 + k * 53 + i * k) % (most - least + 1);
    }

    private static void clocksAreTexts() {
        Check.by("CLOCKS (4 at most, numbered) are texts: VESSELS (1 to 3) with \">\" between: an AREA (1 to 30), \"x\", a HEIGHT (1 to 60), \"h\", a HOLE (1 to 40);",
                "then \"=\", AREA (1 to 99), \"x\", HEIGHT (1 to 99) of the CYLINDER; then \";s\", SUPPLY (0 to 60); then \";m\", MARKS (1 to 12) with \",\" between");
        int[] most = {30, 60, 40};
        for (int i = 0; i < 300; i++) {
            int vessels = 1 + i % 3;
            int marks = 1 + i % 12;
            StringBuilder text = new StringBuilder();
            for (int k = 0; k < 3 * vessels; k++) {
                text.append(k == 0 ? "" : k % 3 == 0 ? ">" : k % 3 == 1 ? "x" : "h").append(mixed(i, k, 1, most[k % 3]));
            }
            text.append('=').append(mixed(i, 10, 1, 99)).append('x').append(mixed(i, 11, 1, 99));
            text.append(";s").append(mixed(i, 12, 0, 60)).append(";m");
            for (int k = 0; k < marks; k++) {
                text.append(k == 0 ? "" : ",").append(8 * k + mixed(i, k, 1, 8));
            }
            DroppingBalls x = Check.with(text.toString());
            for (int k = 0; k < 3 * vessels; k++) {
                Check.due("number " + k + " of " + text, x.told(0, 10 + k / 3 * 10 + k % 3), mixed(i, k, 1, most[k % 3]));
            }
            int[] five = {vessels, mixed(i, 10, 1, 99), mixed(i, 11, 1, 99), mixed(i, 12, 0, 60), marks};
            for (int what = 0; what < 5; what++) {
                Check.due("told " + what + " of " + text, x.told(0, what), five[what]);
            }
            for (int k = 0; k < marks; k++) {
                Check.due("MARK " + k + " of " + text, x.told(0, 40 + k), 8 * k + mixed(i, k, 1, 8));
            }
        }
    }

    /** WARMTH of a SEASON is that of its own RUNS; DAYLIGHT is that of THE TRUE TICKS alone. */
    private static void seasons() {
        Check.by("SEASONS 0 to 3 have WARMTH (50 to 150; 100 at first), and DAYLIGHT (24 to 72; 48 at first).");
        for (int own = 0; own < 4; own++) {
            DroppingBalls x = Check.with("10x10h10=10x99;s10;m10");
            x.season(own, 0, 50);
            for (int s = 0; s < 4; s++) {
                Check.due("WARMTH of " + own + ", drops in " + s, x.drops(0, s, NONE, 0), s == own ? 19 : 9);
                Check.due("WARMTH of " + own + ", error in " + s, x.error(0, s, NONE, 0), (s == own ? 19 : 9) - 48);
            }
            x.season(own, 0, 100);
            x.season(own, 1, 24);
            for (int s = 0; s < 4; s++) {
                Check.due("DAYLIGHT of " + own + ", drops in " + s, x.drops(0, s, NONE, 0), 9);
                Check.due("DAYLIGHT of " + own + ", error in " + s, x.error(0, s, NONE, 0), 9 - (s == own ? 24 : 48));
            }
        }
    }

    private static void standsAt(DroppingBalls x, int tick, int... eight) {
        for (int what = 0; what < eight.length; what++) {
            Check.due("at(0, 0, NONE, " + tick + ", " + what + ")", x.at(0, 0, NONE, tick, what), eight[what]);
        }
    }

    /** What comes to VESSEL 0 goes through all of them in the same TICK; each TICK from 1 on all 5 of it. */
    private static void theWayOfTheWater() {
        Check.by("In a TICK: 1 SUPPLY comes to VESSEL 0. 2 From VESSEL 0 on, each: HOLE times LEVEL times WARMTH, by 1000, rounded down (what it has at most), go out,",
                "to the next VESSEL, from the last one to the CYLINDER; LEVEL is drops by AREA, rounded down.");
        DroppingBalls x = Check.with("1x10h40>1x10h20>1x10h10=1x99;s5;m99");
        standsAt(x, 0, 0, 0, 0, 10, 0, 25, 0, 0);
        standsAt(x, 1, 0, 0, 0, 15, 0, 25, 0, 0);
        standsAt(x, 17, 0, 0, 0, 95, 0, 25, 0, 0);
        standsAt(x, 18, 0, 0, 0, 0, 1, 25, 0, 1);
        standsAt(x, 19, 0, 0, 0, 5, 1, 25, 0, 1);
        standsAt(x, 37, 0, 0, 0, 95, 1, 25, 0, 1);
        standsAt(x, 38, 0, 0, 0, 0, 1, 25, 0, 2);
        standsAt(x, 95, 0, 0, 0, 85, 1, 25, 0, 4);
        Check.due("the BALL", x.drops(0, 0, NONE, 0), 18);
    }

    /** HOLES of 10 and WARMTH of 100: as many drops as LEVEL go out. From TICK 5 on it is 7 in, 7 out. */
    private static void theWayOfLessWater() {
        Check.by("HOLE times LEVEL times WARMTH, by 1000, rounded down (what it has at most), go out, to the next VESSEL,",
                "What would be above full in a VESSEL runs over (it is gone) as soon as it comes.",
                "3 If LEVEL of the CYLINDER is HEIGHT or more, and all BALLS have dropped, the SIPHON empties it.");
        DroppingBalls x = Check.with("3x10h10>2x15h10=5x50;s7;m1");
        int[][] first = {{20, 15, NONE, 15}, {18, 12, NONE, 27}, {17, 10, NONE, 37}, {16, 9, NONE, 46}, {16, 8, NONE, 54},
            {16, 8, NONE, 61}, {16, 8, NONE, 68}};
        for (int tick = 0; tick < first.length; tick++) {
            standsAt(x, tick, first[tick]);
        }
        standsAt(x, 31, 16, 8, NONE, 243, 1, 17, 0, 0);
        standsAt(x, 32, 16, 8, NONE, 0, 1, 17, 0, 1);
        standsAt(x, 67, 16, 8, NONE, 245, 1, 17, 0, 1);
        standsAt(x, 68, 16, 8, NONE, 0, 1, 17, 0, 2);
        standsAt(x, 95, 16, 8, NONE, 189, 1, 17, 0, 2);
    }

    private static void errors() {
        Check.by("ERROR of BALL i: the TICK on which it drops, less that (96 in place of the TICK, if it does not drop).");
        DroppingBalls x = Check.withMarks("5,50,97");
        Check.due("early", x.error(0, 0, NONE, 0), 4 - 16);
        Check.due("late", x.error(0, 0, NONE, 1), 49 - 32);
        Check.due("never", x.error(0, 0, NONE, 2), 96 - 48);
    }

    // ---- 2 WORKS and FAULTS

    private static void showing(String name, DroppingBalls x, int strokes, int out, int stuck, int tick) {
        Check.due(name + ": strokes", x.shows(0, 0, NONE, 0), strokes);
        Check.due(name + ": came out", x.shows(0, 0, NONE, 1), out);
        Check.due(name + ": what sticks", x.shows(0, 0, NONE, 2), stuck);
        Check.due(name + ": when it sticks", x.shows(0, 0, NONE, 3), tick);
    }

    /** Of each KIND one that strikes a GONG, and one that strikes none, as BALLS drop on TICKS 0, 1, 2. */
    private static void kindsOfWorks() {
        Check.by("WORKS (10 at most, numbered) are of KINDS: 0 WORK, 1 GONG, 2 FIGURE, 3 CRANK, 4 COUNT, with a number n, and strike another WORK told ahead, or none.");
        int[] n = {0, 9, 3, 2, 2};
        int[] strokes = {1 + 2 + 3, 6 + 10 + 11 + 12, 1, 2 + 3 + 3, 2};
        int[] alone = {0, 10 + 11 + 12, 0, 0, 0};
        for (int kind = 0; kind <= 4; kind++) {
            DroppingBalls x = Check.withMarks("1,2,3");
            x.work(GONG, 0, NONE);
            x.work(kind, n[kind], 0);
            x.work(kind, n[kind], NONE);
            boolean isFigure = kind == 2;
            for (int head = 1; head <= 2; head++) {
                x.head(head);
                showing("KIND " + kind + (head == 1 ? "" : " alone"), x, head == 1 ? strokes[kind] : alone[kind],
                        isFigure ? 1 : 0, isFigure ? head : NONE, isFigure ? 1 : NONE);
            }
        }
    }

    private static void allAreWorks() {
        Check.by("All are WORKS; a COUNT is a CRANK, too.");
        int[] n = {0, 0, 0, 5, 5};
        boolean[][] is = {{true, false, false, false, false}, {true, true, false, false, false},
            {true, false, true, false, false}, {true, false, false, true, false}, {true, false, false, true, true}};
        DroppingBalls x = new DroppingBalls();
        for (int own = 0; own <= 4; own++) {
            x.work(own, n[own], NONE);
            for (int kind = 0; kind <= 4; kind++) {
                Check.due("workAs(" + own + ", " + kind + ")", x.workAs(own, kind), is[own][kind] ? own : NONE);
            }
        }
    }

    private static void worksStrikeOn() {
        Check.by("Each BALL, as it drops, strikes the HEAD (if one is told). Struck on a TICK: a WORK strikes on; a GONG");
        for (int between = 0; between <= 8; between++) {
            DroppingBalls x = Check.withMarks("1,96");
            x.work(2, 0, NONE);
            for (int i = 0; i < between; i++) {
                x.work(0, 0, i);
            }
            x.head(between);
            showing(between + " WORKS ahead of a FIGURE", x, 0, 2, NONE, NONE);
            Check.due("the FIGURE", x.shows(0, 0, NONE, 11), 0);
        }
    }

    /** From TICK 3 on; behind it VESSEL 0, the CYLINDER, how much has leaked. */
    private static void kindsOfFaults() {
        Check.by("FAULTS (8 at most, numbered) are of KINDS: 0 FAULT, 1 CLOG, 2 WEAR, 3 LEAK, 4 COLD, with a VESSEL v, a number n (1 to 20) and a TICK c (0 to 95) from which on they are.");
        int[] vessel = {90, 95, 85, 85, 91};
        int[] cylinder = {40, 35, 45, 40, 39};
        for (int kind = 0; kind <= 4; kind++) {
            DroppingBalls x = Check.with("10x10h10=10x99;s10;m99");
            Check.due("its number", x.faulty(kind, 0, 5, 3), 0);
            Check.due("KIND " + kind + ", VESSEL ahead of it", x.at(0, 0, 0, 2, 0), 90);
            Check.due("KIND " + kind + ", CYLINDER ahead of it", x.at(0, 0, 0, 2, 3), 30);
            Check.due("KIND " + kind + ", VESSEL", x.at(0, 0, 0, 3, 0), vessel[kind]);
            Check.due("KIND " + kind + ", CYLINDER", x.at(0, 0, 0, 3, 3), cylinder[kind]);
            Check.due("KIND " + kind + ", leaked", x.at(0, 0, 0, 3, 6), kind == 3 ? 5 : 0);
            Check.due("KIND " + kind + ", not without it", x.at(0, 0, NONE, 3, 3), 40);
        }
    }

    private static void aFaultDoesNothing() {
        Check.by("A FAULT does nothing;");
        DroppingBalls x = Check.with("3x20h9>4x9h7>5x8h6=7x30;s12;m1,2,3,5,8,13,21,34,55,60,70,80");
        for (int v = 0; v < 3; v++) {
            x.faulty(0, v, 20, 0);
        }
        for (int tick = 0; tick < NEVER; tick += 7) {
            for (int what = 0; what <= 7; what++) {
                int without = x.at(0, 0, NONE, tick, what);
                Check.due("at(0, 0, " + tick % 3 + ", " + tick + ", " + what + ")", x.at(0, 0, tick % 3, tick, what), without);
            }
        }
    }

    private static void allAreFaults() {
        Check.by("All are FAULTS; a WEAR is a CLOG, too.");
        boolean[][] is = {{true, false, false, false, false}, {true, true, false, false, false},
            {true, true, true, false, false}, {true, false, false, true, false}, {true, false, false, false, true}};
        DroppingBalls x = new DroppingBalls();
        for (int own = 0; own <= 4; own++) {
            x.faulty(own, 0, 20, 95);
            for (int kind = 0; kind <= 4; kind++) {
                Check.due("as(" + own + ", " + kind + ")", x.as(own, kind), is[own][kind] ? own : NONE);
            }
        }
    }

    // ---- 3 RUNS, LOGS, RECORDS

    /** Two CLOCKS in two SEASONS by two FAULTS and none: whatever was asked ahead, a RUN is its own. */
    private static void runs() {
        Check.by("A RUN: a CLOCK, a SEASON, a FAULT or none.");
        DroppingBalls x = Check.with("10x10h10=10x99;s10;m10");
        Check.clock(x, "10x10h10=5x99;s10;m10");
        x.season(1, 0, 50);
        x.faulty(CLOG, 0, 5, 0);
        x.faulty(CLOG, 0, 8, 0);
        int[][][] want = {{{9, 19, 49}, {19, 49, NONE}}, {{4, 9, 24}, {9, 24, 49}}};
        for (int i = 0; i < 144; i++) {
            int all = i * 5 % 12;
            int clock = all % 2;
            int season = all / 2 % 2;
            int fault = all / 4 - 1;
            Check.due("drops(" + clock + ", " + season + ", " + fault + ", 0)", x.drops(clock, season, fault, 0),
                    want[clock][season][fault + 1]);
        }
    }

    private static void unknownRuns() {
        Check.by("a run (UNKNOWN: clock, season, fault (NONE: none)).");
        DroppingBalls x = Check.withMarks("1,2,3");
        x.faulty(0, 0, 1, 0);
        int[][] runs = {{0, 0, NONE}, {0, 3, 0}, {-1, 0, NONE}, {1, 0, NONE}, {0, -1, NONE}, {0, 4, NONE}, {0, 0, -2}, {0, 0, 1}};
        for (int i = 0; i < runs.length; i++) {
            int[] r = runs[i];
            String run = " of the run " + r[0] + ", " + r[1] + ", " + r[2];
            boolean known = i < 2;
            Check.due("drops" + run, x.drops(r[0], r[1], r[2], 2), known ? 2 : UNKNOWN);
            Check.due("error" + run, x.error(r[0], r[1], r[2], 2), known ? 2 - 48 : ERROR_UNKNOWN);
            Check.due("at" + run, x.at(r[0], r[1], r[2], 2, 4), known ? 3 : UNKNOWN);
            Check.due("even" + run, x.even(r[0], r[1], r[2], 1), known ? 10 : UNKNOWN);
            Check.due("mean" + run, x.mean(r[0], r[1], r[2], 0), known ? 31 : UNKNOWN);
            Check.due("shows" + run, x.shows(r[0], r[1], r[2], 0), known ? 0 : UNKNOWN);
        }
    }

    /** All of a KIND, told as FAULTS one by one, eight to an object. */
    private static void soughtByFaults() {
        Check.by("SOUGHT: of a KIND (1 to 4) and VESSEL all n (1 to 20) and c (0 to 95) by which the RUN AGREES.");
        String clock = "9x20h9>4x30h7=5x30;s12;m4,30";
        int[] drops = {NONE, 11, 5, 15, 10};
        for (int kind = 1; kind <= 4; kind++) {
            int many = 0;
            int leastN = NONE;
            int leastC = NONE;
            int greatestN = NONE;
            for (int first = 0; first < 1920; first += 8) {
                DroppingBalls x = Check.with(clock);
                x.log(1, drops[kind]);
                for (int i = 0; i < 8; i++) {
                    int n = 1 + (first + i) / 96;
                    int c = (first + i) % 96;
                    x.faulty(kind, 1, n, c);
                    if (x.agrees(0, 0, i) == 1) {
                        leastN = many == 0 ? n : leastN;
                        leastC = many == 0 ? c : leastC;
                        greatestN = n;
                        many++;
                    }
                }
            }
            DroppingBalls x = Check.with(clock);
            x.log(1, drops[kind]);
            Check.holds("KIND " + kind + ": some, not all: " + many, many > 0 && many < 1920);
            Check.due("KIND " + kind + ": how many", x.sought(0, 0, kind, 1, 0), many);
            Check.due("KIND " + kind + ": the least n", x.sought(0, 0, kind, 1, 1), leastN);
            Check.due("KIND " + kind + ": the least c with that", x.sought(0, 0, kind, 1, 2), leastC);
            Check.due("KIND " + kind + ": the greatest n", x.sought(0, 0, kind, 1, 3), greatestN);
        }
    }

    /** All that it can have been, told as CLOCKS one by one, four to an object. */
    private static void lostByClocks() {
        Check.by("LOST: a CLOCK whose HOLE of one VESSEL (1 to 40) and SUPPLY (0 to 60) are not known: all by which the RUN without a FAULT AGREES.");
        int many = 0;
        int leastHole = NONE;
        int leastSupply = NONE;
        for (int first = 0; first < 40 * 61; first += 4) {
            DroppingBalls x = new DroppingBalls();
            x.log(0, 0);
            x.log(1, 8);
            for (int i = 0; i < 4; i++) {
                int hole = 1 + (first + i) / 61;
                int supply = (first + i) % 61;
                Check.clock(x, "9x20h9>4x30h" + hole + "=5x30;s" + supply + ";m4,30");
                if (x.agrees(i, 0, NONE) == 1) {
                    leastHole = many == 0 ? hole : leastHole;
                    leastSupply = many == 0 ? supply : leastSupply;
                    many++;
                }
            }
        }
        DroppingBalls x = Check.with("9x20h9>4x30h7=5x30;s12;m4,30");
        x.faulty(CLOG, 1, 20, 0);
        x.log(0, 0);
        x.log(1, 8);
        Check.due("how many", x.lost(0, 0, 1, 0), many);
        Check.due("HOLE", x.lost(0, 0, 1, 1), leastHole);
        Check.due("SUPPLY", x.lost(0, 0, 1, 2), leastSupply);
        Check.holds("some, not all: " + many, many > 0 && many < 40 * 61);
    }

    private static void worst() {
        Check.by("WORST of a CLOCK: over all SEASONS and BALLS the greatest size of ERROR.");
        DroppingBalls x = Sample.fullWithClock().make();
        for (int clock = 0; clock < 4; clock++) {
            int[] worst = {NONE, NONE, NONE};
            for (int s = 0; s < 4; s++) {
                for (int ball = 0; ball < x.told(clock, 4); ball++) {
                    int size = Math.abs(x.error(clock, s, NONE, ball));
                    worst = size > worst[0] ? new int[] {size, s, ball} : worst;
                }
            }
            for (int what = 0; what < 3; what++) {
                Check.due("worst(" + clock + ", " + what + ")", x.worst(clock, what), worst[what]);
            }
        }
    }

    private static void means() {
        Check.by("MEAN: of a RUN all sizes of ERROR by how many BALLS.");
        for (int clock = 0; clock < 4; clock++) {
            DroppingBalls x = Sample.fullWithClock().make();
            for (int fault = NONE; fault < 8; fault++) {
                int balls = x.told(clock, 4);
                int sizes = 0;
                for (int ball = 0; ball < balls; ball++) {
                    sizes += Math.abs(x.error(clock, fault & 3, fault, ball));
                }
                int above = x.mean(clock, fault & 3, fault, 0);
                int below = x.mean(clock, fault & 3, fault, 1);
                Check.due("mean of " + clock + " by " + fault, (long) above * balls, (long) below * sizes);
                for (int k = 2; k <= 12; k++) {
                    Check.holds("in lowest terms, by " + k, above % k != 0 || below % k != 0);
                }
            }
        }
    }

    /** Each MARK is told as a CLOCK of its own, one MARK each. */
    private static void bestMarks() {
        Check.by("BEST MARK of an HOUR in a SEASON: the least MARK (1 to 99), all else as it is, by which its BALL would drop on THE TRUE TICK");
        String[] clocks = {"10x10h10=7x99;s10", "30x60h40=99x1;s60", "5x20h9>4x9h7=3x99;s11", "9x20h9>4x30h7>8x8h8=2x5;s4"};
        for (String clock : clocks) {
            int[] best = new int[NEVER + 1];
            java.util.Arrays.fill(best, NONE);
            for (int mark = 99; mark >= 1; mark--) {
                int tick = Check.with(clock + ";m" + mark).drops(0, 0, NONE, 0);
                best[tick == NONE ? NEVER : tick] = mark;
            }
            DroppingBalls x = Check.with(clock + ";m99");
            for (int daylight = 24; daylight <= 72; daylight++) {
                x.season(0, 1, daylight);
                Check.due("mark of " + clock + " on " + daylight, x.mark(0, 0, 0), best[daylight]);
            }
        }
    }

    private static void bestMarksAmongOthers() {
        for (int daylight = 24; daylight <= 72; daylight += 3) {
            DroppingBalls x = Check.with("10x10h10=7x50;s10;m1,50,99");
            x.season(0, 1, daylight);
            int mark = x.mark(0, 0, 1);
            Check.holds("one of 2 to 98: " + mark, mark > 1 && mark < 99);
            Check.clock(x, "10x10h10=7x50;s10;m1," + mark + ",99");
            Check.due("ERROR with it, DAYLIGHT " + daylight, x.error(1, 0, NONE, 1), 0);
            Check.clock(x, "10x10h10=7x50;s10;m1," + (mark - 1) + ",99");
            Check.holds("not with one less", x.error(2, 0, NONE, 1) < 0);
        }
    }

    /** DAY d is told as a WEAR of d by w from TICK 0 on, up to 20, so that w is 3 at least. */
    private static void mendedByWear() {
        Check.by("MENDED: with WEAR of 1 more HOLE of VESSEL v each w DAYS (1 to 30; DAY d has d by w more, rounded down) the first DAY (0 to 60) on which some size of ERROR in a SEASON is above t.");
        String clock = "9x20h9>4x30h7=5x60;s12;m4,20,40";
        for (int v = 0; v < 3; v++) {
            int[] worst = new int[21];
            for (int n = 0; n <= 20; n++) {
                DroppingBalls x = Check.with(clock);
                int fault = n == 0 ? NONE : x.faulty(WEAR, v, n, 0);
                for (int ball = 0; ball < 3; ball++) {
                    worst[n] = Math.max(worst[n], Math.abs(x.error(0, 0, fault, ball)));
                }
            }
            DroppingBalls x = Check.with(clock);
            for (int w = 3; w <= 30; w += 9) {
                for (int t = 0; t <= 96; t++) {
                    int first = NONE;
                    for (int d = 60; d >= 0; d--) {
                        first = worst[d / w] > t ? d : first;
                    }
                    Check.due("mended(0, 0, " + v + ", " + w + ", " + t + ")", x.mended(0, 0, v, w, t), first);
                }
            }
        }
    }

    /** Behind a TICK the BALL that dropped latest is the one whose RECORD HOLDS on it; NONE, if none dropped yet. */
    private static void records() {
        Check.by("A RECORD tells that something was seen behind BALL i and ahead of the next (or NONE ahead of the first): its SPAN by a RUN:");
        String[] clocks = {"10x10h10=10x99;s10;m1,30,31,96", "10x10h10=10x99;s10;m40,97,98", "10x10h10=3x99;s10;m10,11,12,13,99"};
        for (String clock : clocks) {
            for (int ball = NONE; ball < Check.with(clock).told(0, 4); ball++) {
                DroppingBalls x = Check.with(clock);
                for (int tick = 0; tick < NEVER; tick++) {
                    boolean isLatest = x.at(0, 0, NONE, tick, 4) - 1 == ball;
                    Check.due("record(0, 0, " + ball + ", " + tick + ", 0) of " + clock, x.record(0, 0, ball, tick, 0), isLatest ? 1 : 0);
                }
            }
        }
    }
}
