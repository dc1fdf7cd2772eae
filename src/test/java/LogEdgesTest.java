/** Bounds of THE LOG and of what is sought by it (promises 23 to 27), sentence by sentence. */
public final class LogEdgesTest {
    private static final int NONE = DroppingBalls.NONE;
    private static final int UNKNOWN = DroppingBalls.UNKNOWN;
    private static final int OUTSIDE = DroppingBalls.OUTSIDE;
    private static final int STATE = DroppingBalls.STATE;
    private static final int NEVER = 96;
    private static final int CLOG = 1;
    private static final int WEAR = 2;
    private static final int LEAK = 3;
    private static final int COLD = 4;
    private static final int FAULT_PAIRS = 20 * 96;
    private static final int CLOCK_PAIRS = 40 * 61;

    private LogEdgesTest() {
    }

    public static void main(String[] args) {
        ballsOfTheLog();
        ticksOfTheLog();
        anEmptyAndAFullLog();
        agreesOnItsTickAlone();
        agreesOnTheFirstAndLastTick();
        ballsThatAClockHasNot();
        agreesOfNothing();
        whichAsBits();
        whichWithoutOne();
        soughtOfAnEmptyLog();
        soughtLeastAndGreatestN();
        soughtLeastAndGreatestC();
        soughtOfAVesselThatItHasNot();
        lostOfAnEmptyLog();
        lostLeastAndGreatestHole();
        lostLeastAndGreatestSupply();
        lostOfEachVessel();
        searchesOfEachClock();
        searchesThatAreRefused();
        twentySearches();
        twentyOfEach();
        Check.end();
    }

    // ---- THE LOG

    private static void ballsOfTheLog() {
        Check.by("THE LOG of a BALL (0 to 11) becomes a TICK", "UNKNOWN: ball; OUTSIDE");
        DroppingBalls x = new DroppingBalls();
        for (int ball = -4; ball <= 15; ball++) {
            boolean fits = ball >= 0 && ball <= 11;
            Check.due("log(" + ball + ", 5)", x.log(ball, 5), fits ? NONE : UNKNOWN);
            Check.due("log(" + ball + ", 97)", x.log(ball, 97), fits ? OUTSIDE : UNKNOWN);
            Check.due("log(" + ball + ", 5) again", x.log(ball, 5), fits ? 5 : UNKNOWN);
            Check.due("count", x.count(4), Math.max(0, Math.min(12, ball + 1)));
        }
        Check.due("the least ball", x.log(Integer.MIN_VALUE, 5), UNKNOWN);
        Check.due("the greatest ball", x.log(Integer.MAX_VALUE, 5), UNKNOWN);
    }

    private static void ticksOfTheLog() {
        Check.by("becomes a TICK (0 to 95, 96; NONE: it tells nothing): what it was (NONE)");
        DroppingBalls x = new DroppingBalls();
        int was = NONE;
        for (int tick = -5; tick <= 101; tick++) {
            boolean fits = tick >= NONE && tick <= NEVER;
            Check.due("log(11, " + tick + ")", x.log(11, tick), fits ? was : OUTSIDE);
            was = fits ? tick : was;
            Check.due("count behind " + tick, x.count(4), was == NONE ? 0 : 1);
        }
        Check.due("the least tick", x.log(11, Integer.MIN_VALUE), OUTSIDE);
        Check.due("the greatest tick", x.log(11, Integer.MAX_VALUE), OUTSIDE);
        Check.due("it is the last that fits", x.log(11, NONE), NEVER);
        Check.due("it tells nothing", x.count(4), 0);
        Check.due("it told nothing", x.log(11, 0), NONE);
    }

    private static void anEmptyAndAFullLog() {
        Check.by("A LOG: of some BALLS the TICK on which they dropped", "A RUN AGREES with THE LOG, if all of it is so");
        DroppingBalls x = Check.withMarks(Check.marks(12, 1));
        Check.due("empty", x.agrees(0, 0, NONE), 1);
        for (int ball = 0; ball < 12; ball++) {
            x.log(ball, ball);
        }
        Check.due("count of a full one", x.count(4), 12);
        Check.due("full", x.agrees(0, 0, NONE), 1);
        for (int ball = 0; ball < 12; ball++) {
            x.log(ball, ball + 1);
            Check.due("all but BALL " + ball, x.agrees(0, 0, NONE), 0);
            x.log(ball, NONE);
            Check.due("nothing of BALL " + ball, x.agrees(0, 0, NONE), 1);
            x.log(ball, ball);
        }
        for (int ball = 0; ball < 12; ball++) {
            Check.due("it goes", x.log(ball, NONE), ball);
        }
        Check.due("count of an empty one", x.count(4), 0);
    }

    private static void agreesOnItsTickAlone() {
        int[] due = {9, 19, NEVER};
        for (int ball = 0; ball < 3; ball++) {
            DroppingBalls x = Check.withMarks("10,20,97");
            for (int tick = 0; tick <= NEVER; tick++) {
                x.log(ball, tick);
                Check.due("BALL " + ball + " on TICK " + tick, x.agrees(0, 0, NONE), tick == due[ball] ? 1 : 0);
            }
        }
    }

    private static void agreesOnTheFirstAndLastTick() {
        Check.by("(96: it did not)");
        DroppingBalls x = Check.withMarks("1,96,97");
        int[][] logs = {{0, 95, 96, 1}, {1, 95, 96, 0}, {0, 94, 96, 0}, {0, 96, 96, 0}, {0, 95, 95, 0}, {96, 96, 96, 0},
            {NONE, 95, NONE, 1}, {NONE, NONE, 96, 1}, {0, NONE, NONE, 1}, {0, 0, NONE, 0}, {95, 0, NONE, 0}};
        for (int[] told : logs) {
            for (int ball = 0; ball < 3; ball++) {
                x.log(ball, told[ball]);
            }
            Check.due("agrees with " + told[0] + ", " + told[1] + ", " + told[2], x.agrees(0, 0, NONE), told[3]);
        }
    }

    private static void ballsThatAClockHasNot() {
        Check.by("(BALLS that a CLOCK has not: NEVER)");
        DroppingBalls x = Check.withMarks("1,2,3");
        x.faulty(0, 0, 1, 0);
        for (int ball = 3; ball < 12; ball++) {
            for (int tick : new int[] {0, 3, 95, NEVER}) {
                x.log(ball, tick);
                Check.due("BALL " + ball + " on " + tick, x.agrees(0, 0, NONE), 0);
                Check.due("BALL " + ball + " on " + tick + ", which", x.which(0, 0), 0);
            }
            x.log(ball, NONE);
            Check.due("nothing of BALL " + ball, x.agrees(0, 0, NONE), 1);
        }
        x.log(3, NEVER);
        Check.due("sought", x.sought(0, 0, LEAK, 0, 0), 0);
        Check.due("lost", x.lost(0, 0, 0, 0), 0);
        x.log(3, NONE);
        x.log(2, 2);
        Check.due("the last BALL that it has", x.which(0, 0), 257);
    }

    private static void agreesOfNothing() {
        Check.by("UNKNOWN: clock, season, fault");
        DroppingBalls x = Check.withMarks("1");
        x.faulty(0, 0, 1, 0);
        int[][] unknown = {{-1, 0, 0}, {1, 0, 0}, {0, -1, 0}, {0, 4, 0}, {0, 0, -2}, {0, 0, 1}};
        for (int[] u : unknown) {
            Check.due("agrees", x.agrees(u[0], u[1], u[2]), UNKNOWN);
        }
        Check.due("agrees of the last ones", x.agrees(0, 3, 0), 1);
        Check.due("which of clock 1", x.which(1, 0), UNKNOWN);
        Check.due("which of clock -1", x.which(NONE, 0), UNKNOWN);
        Check.due("which of season 4", x.which(0, 4), UNKNOWN);
        Check.due("which of season -1", x.which(0, -1), UNKNOWN);
        Check.due("which of season 3", x.which(0, 3), 257);
    }

    private static void whichAsBits() {
        Check.by("FAULTS by which the RUN AGREES, as bits (bit 8: without one)");
        for (int own = 0; own < 8; own++) {
            DroppingBalls x = Check.withMarks("10,20");
            for (int fault = 0; fault < 8; fault++) {
                x.faulty(fault == own ? CLOG : 0, 0, 20, 15);
                Check.due("nothing told", x.which(0, 0), 256 + (2 << fault) - 1);
            }
            x.log(1, NEVER);
            Check.due("by FAULT " + own + " alone", x.which(0, 0), 1 << own);
            x.log(1, 19);
            Check.due("by all but FAULT " + own, x.which(0, 0), 511 - (1 << own));
            x.log(1, 18);
            Check.due("by none", x.which(0, 0), 0);
        }
    }

    private static void whichWithoutOne() {
        DroppingBalls x = Check.withMarks("10");
        Check.due("no FAULTS, nothing told", x.which(0, 0), 256);
        x.log(0, 9);
        Check.due("no FAULTS, so", x.which(0, 0), 256);
        x.log(0, 10);
        Check.due("no FAULTS, not so", x.which(0, 0), 0);
    }

    // ---- SOUGHT

    private static void soughtIs(String name, DroppingBalls x, int kind, int many, int leastN, int leastC, int greatestN) {
        Check.due(name + ": how many", x.sought(0, 0, kind, 0, 0), many);
        Check.due(name + ": the least n", x.sought(0, 0, kind, 0, 1), leastN);
        Check.due(name + ": the least c with that", x.sought(0, 0, kind, 0, 2), leastC);
        Check.due(name + ": the greatest n", x.sought(0, 0, kind, 0, 3), greatestN);
    }

    private static void soughtOfAnEmptyLog() {
        Check.by("SOUGHT: of a KIND (1 to 4) and VESSEL all n (1 to 20) and c (0 to 95) by which the RUN AGREES");
        DroppingBalls x = Check.withMarks("10");
        for (int kind = CLOG; kind <= COLD; kind++) {
            soughtIs("KIND " + kind + " by an empty LOG", x, kind, FAULT_PAIRS, 1, 0, 20);
        }
        DroppingBalls none = Check.withMarks("10");
        none.log(0, 0);
        for (int kind = CLOG; kind <= COLD; kind++) {
            soughtIs("KIND " + kind + " by none", none, kind, 0, NONE, NONE, NONE);
        }
    }

    private static void soughtLeastAndGreatestN() {
        // 21 - n drops a TICK come to 96 on TICK 95 with n of 20, on TICK 47 with 19, from TICK 0 on alone.
        DroppingBalls x = Check.with("30x10h21=96x99;s60;m1");
        x.log(0, 95);
        soughtIs("n of 20 alone", x, CLOG, 1, 20, 0, 20);
        x.log(0, 47);
        soughtIs("n of 19 alone", x, CLOG, 1, 19, 0, 19);
        // Of 961 drops 960 come without a WEAR: n is all on TICK 95, and by TICK 94 ten at most.
        DroppingBalls wear = Check.with("30x10h10=31x99;s60;m31");
        wear.log(0, 95);
        soughtIs("n of 1 for eleven TICKS at most", wear, WEAR, 20 + 10 + 5 + 3 + 2 + 2 + 5, 1, 85, 20);
    }

    private static void soughtLeastAndGreatestC() {
        DroppingBalls x = Check.withMarks("1,95,96");
        x.log(1, 94);
        x.log(2, NEVER);
        soughtIs("from the last TICK on alone", x, CLOG, 20, 1, 95, 20);
        x.log(1, NEVER);
        x.log(2, NONE);
        x.log(0, NEVER);
        soughtIs("from the first TICK on alone, no HOLE left", x, CLOG, 11, 10, 0, 20);
        DroppingBalls leak = Check.with("1x10h1=1x99;s0;m1,2");
        leak.log(0, 0);
        soughtIs("whatever leaks", leak, LEAK, FAULT_PAIRS, 1, 0, 20);
    }

    private static void soughtOfAVesselThatItHasNot() {
        Check.by("OUTSIDE: kind, vessel, what");
        DroppingBalls x = Check.withMarks("10");
        x.log(0, 9);
        for (int kind = -1; kind <= 6; kind++) {
            for (int vessel = -2; vessel <= 4; vessel++) {
                boolean fits = kind >= CLOG && kind <= COLD && vessel >= 0 && vessel <= 2;
                if (!fits) {
                    Check.due("KIND " + kind + " of VESSEL " + vessel, x.sought(0, 0, kind, vessel, 0), OUTSIDE);
                } else if (vessel > 0 && kind != COLD) {
                    Check.due("KIND " + kind + " of VESSEL " + vessel, x.sought(0, 0, kind, vessel, 0), FAULT_PAIRS);
                }
            }
        }
        Check.due("searches done", x.count(5), 6);
        int cold = x.sought(0, 0, COLD, 0, 0);
        Check.due("COLD whatever the VESSEL is, 1", x.sought(0, 0, COLD, 1, 0), cold);
        Check.due("COLD whatever the VESSEL is, 2", x.sought(0, 0, COLD, 2, 0), cold);
        // All 100 drops are needed by TICK 9: the COLD is from TICK 10 on.
        Check.due("COLD from behind the BALL on", cold, 86 * 20);
        for (int what : new int[] {-2, -1, 4, 5, Integer.MIN_VALUE, Integer.MAX_VALUE}) {
            Check.due("what " + what, x.sought(0, 0, CLOG, 0, what), OUTSIDE);
        }
        Check.due("searches done then", x.count(5), 9);
    }

    // ---- LOST

    private static void lostIs(String name, DroppingBalls x, int vessel, int many, int hole, int supply) {
        Check.due(name + ": how many", x.lost(0, 0, vessel, 0), many);
        Check.due(name + ": HOLE", x.lost(0, 0, vessel, 1), hole);
        Check.due(name + ": SUPPLY", x.lost(0, 0, vessel, 2), supply);
    }

    private static void lostOfAnEmptyLog() {
        Check.by("LOST: a CLOCK whose HOLE of one VESSEL (1 to 40) and SUPPLY (0 to 60) are not known: all by which the RUN without a FAULT AGREES");
        DroppingBalls x = Check.withMarks("10");
        lostIs("an empty LOG", x, 0, CLOCK_PAIRS, 1, 0);
        x.log(0, 96);
        x.log(11, 96);
        lostIs("none", x, 0, 0, NONE, NONE);
        Check.due("the CLOCK is as it was, HOLE", x.told(0, 12), 10);
        Check.due("the CLOCK is as it was, SUPPLY", x.told(0, 3), 10);
        Check.due("the CLOCK is as it was, its BALL", x.drops(0, 0, NONE, 0), 9);
    }

    private static void lostLeastAndGreatestHole() {
        Check.by("the first one (of least HOLE, then of least SUPPLY; NONE)");
        // As many drops as HOLE on TICK 0, whatever the SUPPLY is.
        for (int least = 38; least <= 40; least++) {
            DroppingBalls x = Check.with("30x10h1=" + least + "x99;s0;m1");
            x.log(0, 0);
            lostIs("HOLE of " + least + " at least", x, 0, 61 * (41 - least), least, 0);
        }
        DroppingBalls above = Check.with("30x10h40=41x99;s60;m1");
        above.log(0, 0);
        lostIs("HOLE of 41 at least", above, 0, 0, NONE, NONE);
        // One drop a TICK comes to 96 on TICK 95, with a SUPPLY to keep LEVEL at 10; more come earlier.
        DroppingBalls slow = Check.with("30x10h5=96x99;s0;m1");
        slow.log(0, 95);
        lostIs("HOLE of 1 alone", slow, 0, 60, 1, 1);
    }

    private static void lostLeastAndGreatestSupply() {
        // From a HOLE of 10 on all of it goes: 60 on TICK 0, as many as the SUPPLY on TICK 1.
        DroppingBalls x = Check.with("1x60h1=40x99;s0;m3");
        x.log(0, 1);
        lostIs("SUPPLY of 60 alone", x, 0, 31, 10, 60);
        DroppingBalls none = Check.with("1x60h1=1x99;s60;m60,61");
        none.log(0, 0);
        none.log(1, 96);
        lostIs("SUPPLY of 0 alone", none, 0, 31, 10, 0);
        none.log(1, 95);
        lostIs("the first drop on TICK 95", none, 0, 0, NONE, NONE);
    }

    private static void lostOfEachVessel() {
        Check.by("OUTSIDE: vessel (one that the CLOCK has), what");
        String[] vessels = {"30x10h40", "30x10h40>30x10h40", "30x10h40>30x10h40>30x10h40"};
        for (int many = 1; many <= 3; many++) {
            DroppingBalls x = Check.with(vessels[many - 1] + "=39x99;s0;m1");
            x.log(0, 0);
            for (int vessel = -2; vessel <= 5; vessel++) {
                boolean fits = vessel >= 0 && vessel < many;
                boolean isLast = vessel == many - 1;
                Check.due("how many by VESSEL " + vessel + " of " + many, x.lost(0, 0, vessel, 0),
                        !fits ? OUTSIDE : isLast ? 2 * 61 : CLOCK_PAIRS);
                Check.due("HOLE by VESSEL " + vessel + " of " + many, x.lost(0, 0, vessel, 1), !fits ? OUTSIDE : isLast ? 39 : 1);
            }
            Check.due("searches done", x.count(5), 2 * many);
            for (int what : new int[] {-2, -1, 3, 4, Integer.MIN_VALUE, Integer.MAX_VALUE}) {
                Check.due("what " + what, x.lost(0, 0, 0, what), OUTSIDE);
            }
        }
    }

    /** What is read, worn or sought ahead of a search leaves nothing behind for it. */
    private static void searchesOfEachClock() {
        Check.by("SOUGHT: of a KIND (1 to 4)", "LOST: a CLOCK whose HOLE of one VESSEL (1 to 40)");
        DroppingBalls x = Check.with("30x10h1=38x99;s0;m1");
        Check.clock(x, "30x10h40=40x99;s0;m1,2");
        x.log(0, 0);
        Check.type(x, "1x2h3>4x5h6");
        int[][] lost = {{3 * 61, 38, 0}, {61, 40, 0}};
        int[] leaks = {0, 1920};
        for (int clock : new int[] {0, 1, 0, 1}) {
            Check.due("the page is read", x.fault(), 11);
            Check.due("LOST of CLOCK " + clock, x.lost(clock, 0, 0, 0), lost[clock][0]);
            Check.due("its HOLE, CLOCK " + clock, x.lost(clock, 0, 0, 1), lost[clock][1]);
            Check.due("SOUGHT of CLOCK " + clock, x.sought(clock, 0, LEAK, 0, 0), leaks[clock]);
            Check.due("the other CLOCK is worn", x.mended(1 - clock, 0, 0, 1, 0), 0);
            Check.due("its SUPPLY, CLOCK " + clock, x.lost(clock, 0, 0, 2), lost[clock][2]);
        }
    }

    // ---- how often they are done

    private static void searchesThatAreRefused() {
        Check.by("UNKNOWN: clock, season; OUTSIDE: kind, vessel, what; STATE: sought(), lost() were done 20 times together",
                "OUTSIDE: vessel (one that the CLOCK has), what; STATE, as sought()");
        DroppingBalls x = Check.withMarks("10");
        int[][] unknown = {{-1, 0}, {1, 0}, {0, -1}, {0, 4}};
        for (int round = 0; round <= 1; round++) {
            for (int[] u : unknown) {
                Check.due("sought", x.sought(u[0], u[1], CLOG, 0, 0), UNKNOWN);
                Check.due("sought, all wrong", x.sought(u[0], u[1], 5, 3, 4), UNKNOWN);
                Check.due("lost", x.lost(u[0], u[1], 0, 0), UNKNOWN);
                Check.due("lost, all wrong", x.lost(u[0], u[1], 1, 3), UNKNOWN);
            }
            int[][] outside = {{0, 0, 0}, {5, 0, 0}, {1, -1, 0}, {1, 3, 0}, {1, 0, -1}, {1, 0, 4}};
            for (int[] o : outside) {
                Check.due("sought", x.sought(0, 0, o[0], o[1], o[2]), OUTSIDE);
            }
            int[][] outsideOfLost = {{-1, 0}, {1, 0}, {0, -1}, {0, 3}};
            for (int[] o : outsideOfLost) {
                Check.due("lost", x.lost(0, 0, o[0], o[1]), OUTSIDE);
            }
            Check.due("how often they were done", x.count(5), 20 * round);
            for (int i = 0; i < 20; i++) {
                Check.due("one that is done", x.sought(0, 3, COLD, 2, 1), round == 0 ? 1 : STATE);
            }
        }
    }

    private static void twentySearches() {
        Check.by("STATE: sought(), lost() were done 20 times together");
        DroppingBalls x = Check.withMarks("10");
        for (int i = 0; i < 20; i++) {
            Check.due("how often ahead of it", x.count(5), i);
            int answer = i % 3 == 0 ? x.lost(0, 0, 0, 0) : x.sought(0, 0, COLD, 0, 0);
            Check.due("search " + i, answer, i % 3 == 0 ? CLOCK_PAIRS : FAULT_PAIRS);
        }
        for (int i = 0; i < 3; i++) {
            Check.due("one more sought()", x.sought(0, 0, CLOG, 0, 0), STATE);
            Check.due("one more lost()", x.lost(0, 0, 0, 0), STATE);
            Check.due("how often then", x.count(5), 20);
        }
        x.image();
        x.restore();
        Check.due("an IMAGE keeps no searches", x.sought(0, 0, CLOG, 0, 0), STATE);
        Check.due("agrees is none", x.agrees(0, 0, NONE), 1);
        Check.due("which is none", x.which(0, 0), 256);
    }

    private static void twentyOfEach() {
        DroppingBalls x = Check.withMarks("10");
        DroppingBalls y = Check.withMarks("10");
        x.log(0, 0);
        y.log(0, 0);
        for (int i = 0; i < 20; i++) {
            Check.due("sought that finds none counts, too", x.sought(0, 0, CLOG, 0, 1), NONE);
            Check.due("lost that finds none counts, too", y.lost(0, 0, 0, 2), NONE);
        }
        Check.due("sought behind sought", x.sought(0, 0, CLOG, 0, 1), STATE);
        Check.due("lost behind sought", x.lost(0, 0, 0, 2), STATE);
        Check.due("sought behind lost", y.sought(0, 0, CLOG, 0, 1), STATE);
        Check.due("lost behind lost", y.lost(0, 0, 0, 2), STATE);
    }
}
