/** Bounds of FAULTS and WORKS, and of what WORKS do (promises 8 to 12 and 18), sentence by sentence. */
public final class WorkEdgesTest {
    private static final int NONE = DroppingBalls.NONE;
    private static final int UNKNOWN = DroppingBalls.UNKNOWN;
    private static final int OUTSIDE = DroppingBalls.OUTSIDE;
    private static final int FULL = DroppingBalls.FULL;
    private static final int GONG = 1;
    private static final int FIGURE = 2;
    private static final int CRANK = 3;
    private static final int COUNT = 4;
    private static final int[] LEAST = {0, 0, 0, 1, 2};
    private static final int[] MOST = {0, 9, 3, 9, 5};
    private static final String TWELVE = Check.marks(12, 1);

    private WorkEdgesTest() {
    }

    public static void main(String[] args) {
        eightFaults();
        numbersOfFaults();
        faultsTakenAs();
        tenWorks();
        numbersOfWorks();
        worksThatStrike();
        refusalsOfWorks();
        worksTakenAs();
        heads();
        noHead();
        gongs();
        tenGongs();
        figuresAtADoor();
        figuresStayOut();
        figuresStick();
        whatSticksFirst();
        cranksUntilTheLastTick();
        cranksOfAllBalls();
        counts();
        cranksAheadOfBalls();
        atOnceGoesOnFirst();
        whatShowsTells();
        twentyFigures();
        Check.end();
    }

    private static void showing(String name, DroppingBalls x, int strokes, int out, int stuck, int tick) {
        Check.due(name + ": strokes", x.shows(0, 0, NONE, 0), strokes);
        Check.due(name + ": came out", x.shows(0, 0, NONE, 1), out);
        Check.due(name + ": what sticks", x.shows(0, 0, NONE, 2), stuck);
        Check.due(name + ": when it sticks", x.shows(0, 0, NONE, 3), tick);
    }

    // ---- FAULTS

    private static void eightFaults() {
        Check.by("FAULTS (8 at most, numbered)");
        DroppingBalls x = Check.with("10x10h10=10x99;s10;m1");
        for (int number = 0; number < 8; number++) {
            Check.due("as ahead of it", x.as(number, 0), UNKNOWN);
            Check.due("drops ahead of it", x.drops(0, 0, number, 0), UNKNOWN);
            Check.due("faulty", x.faulty(0, 0, 1, 0), number);
            Check.due("as", x.as(number, 0), number);
            Check.due("drops", x.drops(0, 0, number, 0), 0);
            Check.due("count", x.count(1), number + 1);
        }
        Check.due("a ninth", x.faulty(0, 0, 1, 0), FULL);
        Check.due("a ninth again", x.faulty(4, 2, 20, 95), FULL);
        Check.due("count", x.count(1), 8);
        Check.due("as of 8", x.as(8, 0), UNKNOWN);
        Check.due("as of -1", x.as(NONE, 0), UNKNOWN);
        Check.due("the last one's KIND", x.as(7, 4), NONE);
        Check.by("OUTSIDE: kind, vessel (0 to 2), n, from; FULL");
        int[][] outside = {{5, 0, 1, 0}, {0, 3, 1, 0}, {0, 0, 21, 0}, {0, 0, 1, 96}, {-1, -1, 0, -1}};
        for (int[] o : outside) {
            Check.due("outside ahead of full", x.faulty(o[0], o[1], o[2], o[3]), OUTSIDE);
        }
    }

    private static void faulty(int kind, int vessel, int n, int from, boolean fits) {
        DroppingBalls x = new DroppingBalls();
        String call = "faulty(" + kind + ", " + vessel + ", " + n + ", " + from + ")";
        Check.due(call, x.faulty(kind, vessel, n, from), fits ? 0 : OUTSIDE);
        Check.due("count behind " + call, x.count(1), fits ? 1 : 0);
    }

    private static void numbersOfFaults() {
        Check.by("with a VESSEL v, a number n (1 to 20) and a TICK c (0 to 95)", "OUTSIDE: kind, vessel (0 to 2), n, from");
        int[] extremes = {Integer.MIN_VALUE, Integer.MAX_VALUE};
        for (int v = -5; v <= 100; v++) {
            faulty(v, 0, 1, 0, v >= 0 && v <= 4);
            faulty(1, v, 20, 95, v >= 0 && v <= 2);
            for (int kind = 0; kind <= 4; kind++) {
                faulty(kind, 2, v, 0, v >= 1 && v <= 20);
            }
            faulty(4, 0, 1, v, v >= 0 && v <= 95);
        }
        for (int v : extremes) {
            faulty(v, 0, 1, 0, false);
            faulty(0, v, 1, 0, false);
            faulty(0, 0, v, 0, false);
            faulty(0, 0, 1, v, false);
        }
    }

    private static void faultsTakenAs() {
        Check.by("A FAULT taken as a KIND: its own number (not that of the KIND); NONE: it is none such (the cast fails)");
        int[] own = {4, 3, 2, 1, 0, 2, 1, 4};
        DroppingBalls x = new DroppingBalls();
        for (int kind : own) {
            x.faulty(kind, 0, 1, 0);
        }
        for (int fault = -2; fault <= 9; fault++) {
            for (int kind = -2; kind <= 6; kind++) {
                int want = NONE;
                if (fault < 0 || fault > 7) {
                    want = UNKNOWN;
                } else if (kind < 0 || kind > 4) {
                    want = OUTSIDE;
                } else if (kind == 0 || kind == own[fault] || kind == 1 && own[fault] == 2) {
                    want = fault;
                }
                Check.due("as(" + fault + ", " + kind + ")", x.as(fault, kind), want);
            }
        }
    }

    // ---- WORKS

    private static void tenWorks() {
        Check.by("WORKS (10 at most, numbered)");
        DroppingBalls x = new DroppingBalls();
        for (int number = 0; number < 10; number++) {
            Check.due("workAs ahead of it", x.workAs(number, 0), UNKNOWN);
            Check.due("head ahead of it", x.head(number), UNKNOWN);
            Check.due("work that strikes it ahead of it", x.work(0, 0, number), UNKNOWN);
            Check.due("work", x.work(0, 0, number - 1), number);
            Check.due("workAs", x.workAs(number, 0), number);
            Check.due("head", x.head(number), number - 1);
            Check.due("count", x.count(2), number + 1);
        }
        Check.due("an eleventh", x.work(0, 0, NONE), FULL);
        Check.due("an eleventh that strikes the tenth", x.work(4, 5, 9), FULL);
        Check.due("count", x.count(2), 10);
        Check.due("workAs of 10", x.workAs(10, 0), UNKNOWN);
        Check.due("head of 10", x.head(10), UNKNOWN);
        Check.due("the HEAD is as it was", x.head(NONE), 9);
    }

    private static void work(int kind, int n, boolean fits) {
        DroppingBalls x = new DroppingBalls();
        String call = "work(" + kind + ", " + n + ", NONE)";
        Check.due(call, x.work(kind, n, NONE), fits ? 0 : OUTSIDE);
        Check.due("count behind " + call, x.count(2), fits ? 1 : 0);
    }

    private static void numbersOfWorks() {
        Check.by("OUTSIDE: kind, n (0 of a WORK)", "a GONG (n 0 to 9)", "a FIGURE at DOOR n (0 to 3)", "a CRANK (n 1 to 9)", "a COUNT (n 2 to 5)");
        for (int kind = -3; kind <= 8; kind++) {
            for (int n = -3; n <= 13; n++) {
                work(kind, n, kind >= 0 && kind <= 4 && n >= LEAST[kind] && n <= MOST[kind]);
            }
            work(kind, Integer.MIN_VALUE, false);
            work(kind, Integer.MAX_VALUE, false);
        }
        work(Integer.MIN_VALUE, 2, false);
        work(Integer.MAX_VALUE, 2, false);
    }

    private static void worksThatStrike() {
        Check.by("and strike another WORK told ahead, or none");
        for (int told = 0; told < 10; told++) {
            for (int next = -3; next <= 12; next++) {
                DroppingBalls x = new DroppingBalls();
                for (int i = 0; i < told; i++) {
                    x.work(0, 0, NONE);
                }
                boolean fits = next >= NONE && next < told;
                Check.due("work behind " + told + " that strikes " + next, x.work(0, 0, next), fits ? told : UNKNOWN);
                Check.due("how many then", x.count(2), fits ? told + 1 : told);
            }
        }
        DroppingBalls x = new DroppingBalls();
        Check.due("of the least number", x.work(0, 0, Integer.MIN_VALUE), UNKNOWN);
        Check.due("of the greatest number", x.work(0, 0, Integer.MAX_VALUE), UNKNOWN);
    }

    private static void refusalsOfWorks() {
        Check.by("OUTSIDE: kind, n (0 of a WORK); UNKNOWN: next; FULL");
        DroppingBalls x = new DroppingBalls();
        Check.due("kind and next", x.work(5, 2, 0), OUTSIDE);
        Check.due("n and next", x.work(0, 1, 0), OUTSIDE);
        for (int i = 0; i < 10; i++) {
            x.work(0, 0, NONE);
        }
        Check.due("kind, next and full", x.work(-1, 0, 10), OUTSIDE);
        Check.due("n, next and full", x.work(COUNT, 1, -2), OUTSIDE);
        Check.due("n and full", x.work(COUNT, 6, NONE), OUTSIDE);
        Check.due("next and full", x.work(COUNT, 2, 10), UNKNOWN);
        Check.due("next of -2 and full", x.work(COUNT, 2, -2), UNKNOWN);
        Check.due("full", x.work(COUNT, 2, 9), FULL);
        Check.due("ten", x.count(2), 10);
    }

    private static void worksTakenAs() {
        Check.by("A WORK taken as a KIND: its number; NONE: it is none such (the cast fails)");
        int[] own = {4, 3, 2, 1, 0, 4, 3, 2, 1, 0};
        DroppingBalls x = new DroppingBalls();
        for (int kind : own) {
            x.work(kind, MOST[kind], NONE);
        }
        for (int work = -2; work <= 11; work++) {
            for (int kind = -2; kind <= 6; kind++) {
                int want = NONE;
                if (work < 0 || work > 9) {
                    want = UNKNOWN;
                } else if (kind < 0 || kind > 4) {
                    want = OUTSIDE;
                } else if (kind == 0 || kind == own[work] || kind == CRANK && own[work] == COUNT) {
                    want = work;
                }
                Check.due("workAs(" + work + ", " + kind + ")", x.workAs(work, kind), want);
            }
        }
    }

    private static void heads() {
        Check.by("The HEAD becomes a WORK (NONE: none): which it was (NONE). UNKNOWN");
        DroppingBalls x = new DroppingBalls();
        Check.due("none of none", x.head(NONE), NONE);
        x.work(0, 0, NONE);
        x.work(0, 0, NONE);
        int was = NONE;
        for (int work : new int[] {-3, -2, 0, 1, 2, 3, NONE, 2, 1, -2, 0, Integer.MIN_VALUE, Integer.MAX_VALUE, NONE}) {
            boolean fits = work >= NONE && work <= 1;
            Check.due("head(" + work + ")", x.head(work), fits ? was : UNKNOWN);
            was = fits ? work : was;
        }
    }

    // ---- what WORKS do

    private static void noHead() {
        Check.by("Each BALL, as it drops, strikes the HEAD (if one is told)");
        DroppingBalls x = Check.withMarks(TWELVE);
        showing("no WORKS", x, 0, 0, NONE, NONE);
        x.work(GONG, 9, NONE);
        x.work(FIGURE, 0, NONE);
        showing("no HEAD", x, 0, 0, NONE, NONE);
        x.head(0);
        showing("a GONG", x, 78 + 108, 0, NONE, NONE);
        x.head(NONE);
        showing("no HEAD again", x, 0, 0, NONE, NONE);
        DroppingBalls none = Check.with("1x1h1=1x1;s0;m1");
        none.work(GONG, 9, NONE);
        none.head(0);
        showing("no BALL that drops", none, 0, 0, NONE, NONE);
    }

    private static void gongs() {
        Check.by("a GONG (n 0 to 9) gives as many strokes as BALLS have struck the HEAD so far, and n");
        for (int balls = 1; balls <= 12; balls++) {
            for (int n = 0; n <= 9; n++) {
                DroppingBalls x = Check.withMarks(Check.marks(balls, 1));
                x.work(GONG, n, NONE);
                x.head(0);
                showing("GONG of " + n + ", " + balls + " BALLS", x, balls * (balls + 1) / 2 + balls * n, 0, NONE, NONE);
            }
        }
    }

    private static void tenGongs() {
        Check.by("and strikes on");
        DroppingBalls x = Check.withMarks("1,2");
        for (int i = 0; i < 10; i++) {
            x.work(i % 2 == 0 ? GONG : 0, 0, i - 1);
        }
        x.head(9);
        showing("five GONGS of ten WORKS", x, 5 + 10, 0, NONE, NONE);
        x.head(0);
        showing("the one at the end", x, 1 + 2, 0, NONE, NONE);
    }

    private static void figuresAtADoor() {
        Check.by("a FIGURE at DOOR n (0 to 3) comes out, if none is out at that DOOR");
        for (int first = 0; first <= 3; first++) {
            for (int second = 0; second <= 3; second++) {
                DroppingBalls x = Check.withMarks("96");
                x.work(GONG, 0, NONE);
                x.work(FIGURE, second, 0);
                x.work(FIGURE, first, 1);
                x.head(2);
                boolean same = first == second;
                showing("DOORS " + first + " and " + second, x, same ? 0 : 1, same ? 1 : 2, same ? 1 : NONE, same ? 95 : NONE);
            }
        }
    }

    private static void figuresStayOut() {
        Check.by("stays out on this TICK and the two behind it");
        for (int behind = 1; behind <= 5; behind++) {
            DroppingBalls x = Check.withMarks("1," + (1 + behind));
            x.work(GONG, 0, NONE);
            x.work(FIGURE, 3, 0);
            x.head(1);
            boolean sticks = behind <= 2;
            showing("struck " + behind + " TICKS later", x, sticks ? 1 : 3, sticks ? 1 : 2, sticks ? 1 : NONE, sticks ? behind : NONE);
        }
        DroppingBalls x = Check.with("10x10h10=5x99;s10;m1,2");
        x.work(FIGURE, 0, NONE);
        x.head(0);
        showing("(itself, too), on the same TICK", x, 0, 1, 0, 0);
    }

    private static void figuresStick() {
        Check.by("else it STICKS: from then on nothing strikes it");
        DroppingBalls x = Check.withMarks("1,3,9,20,96");
        x.work(GONG, 0, NONE);
        x.work(FIGURE, 0, 0);
        x.work(0, 0, 1);
        x.head(2);
        showing("it does not come out again", x, 1, 1, 1, 2);
        Check.due("the one time", x.shows(0, 0, NONE, 10), 1);
        Check.due("no other time", x.shows(0, 0, NONE, 11), NONE);
        DroppingBalls again = Check.withMarks("1,4,7");
        again.work(FIGURE, 0, NONE);
        again.work(FIGURE, 0, 0);
        again.head(1);
        showing("another one at its DOOR does", again, 0, 3, 0, 0);
        Check.due("not for another RUN", again.shows(0, 0, NONE, 12), 1);
    }

    private static void whatSticksFirst() {
        Check.by("2 the first WORK that STICKS (NONE), 3 the TICK on which it does (NONE)");
        DroppingBalls x = Check.withMarks("1,2,3");
        x.work(FIGURE, 1, NONE);
        x.work(FIGURE, 1, 0);
        x.head(1);
        showing("the second one ahead of the first", x, 0, 1, 0, 0);
        DroppingBalls y = Check.withMarks("1,2");
        y.work(FIGURE, 1, NONE);
        y.work(FIGURE, 2, 0);
        y.head(1);
        showing("the first one on TICK 1", y, 0, 2, 1, 1);
        DroppingBalls last = Check.withMarks("94,96");
        last.work(FIGURE, 0, NONE);
        last.head(0);
        showing("on the last TICK", last, 0, 1, 0, 95);
    }

    private static void cranksUntilTheLastTick() {
        Check.by("a CRANK (n 1 to 9) strikes on n TICKS later (not, if that is behind TICK 95)");
        for (int n = 1; n <= 9; n++) {
            for (int tick = 85; tick <= 95; tick++) {
                DroppingBalls x = Check.withMarks(String.valueOf(tick + 1));
                x.work(FIGURE, 0, NONE);
                x.work(GONG, 0, 0);
                x.work(CRANK, n, 1);
                x.head(2);
                boolean strikes = tick + n <= 95;
                showing("CRANK of " + n + " on TICK " + tick, x, strikes ? 1 : 0, strikes ? 1 : 0, NONE, NONE);
            }
            DroppingBalls x = Check.withMarks("1,2");
            x.work(FIGURE, 0, NONE);
            x.work(CRANK, n, 0);
            x.head(1);
            showing("CRANK of " + n + ": when it strikes", x, 0, 1, 0, n + 1);
        }
    }

    /** Twelve BALLS through nine CRANKS: as many of them as there can be in a DAY. */
    private static void cranksOfAllBalls() {
        for (int n = 1; n <= 9; n++) {
            DroppingBalls x = Check.withMarks(TWELVE);
            x.work(GONG, 0, NONE);
            for (int i = 1; i < 10; i++) {
                x.work(CRANK, n, i - 1);
            }
            x.head(9);
            int strokes = 0;
            for (int ball = 1; ball <= 12; ball++) {
                int tick = ball - 1 + 9 * n;
                strokes += tick > 95 ? 0 : Math.min(12, tick);
            }
            showing("nine CRANKS of " + n, x, strokes, 0, NONE, NONE);
        }
    }

    private static void counts() {
        Check.by("a COUNT (n 2 to 5) strikes on at once each n-th time that it is struck");
        for (int n = 2; n <= 5; n++) {
            for (int balls = 1; balls <= 12; balls++) {
                DroppingBalls x = Check.withMarks(Check.marks(balls, 1));
                x.work(GONG, 0, NONE);
                x.work(COUNT, n, 0);
                x.head(1);
                int strokes = 0;
                for (int b = n; b <= balls; b += n) {
                    strokes += b;
                }
                showing("COUNT of " + n + ", " + balls + " BALLS", x, strokes, 0, NONE, NONE);
            }
        }
    }

    private static void cranksAheadOfBalls() {
        Check.by("On a TICK first what comes of CRANKS, in the order in which these were struck, then BALLS, in their order");
        DroppingBalls x = Check.withMarks("1,2");
        x.work(GONG, 0, NONE);
        x.work(CRANK, 1, 0);
        x.head(1);
        showing("the GONG ahead of the second BALL", x, 1 + 2, 0, NONE, NONE);
        DroppingBalls together = Check.with("10x10h10=5x99;s10;m1,2");
        together.work(GONG, 0, NONE);
        together.work(CRANK, 1, 0);
        together.head(1);
        showing("two BALLS, then two CRANKS", together, 2 + 2, 0, NONE, NONE);
        DroppingBalls order = Check.withMarks("1,5");
        order.work(FIGURE, 0, NONE);
        order.work(CRANK, 4, 0);
        order.work(FIGURE, 0, 1);
        order.head(2);
        // On TICK 4 the FIGURE that the CRANK strikes is out when the BALL comes.
        showing("a CRANK's FIGURE is out ahead of the BALL's", order, 0, 2, 2, 4);
        Check.due("the BALL's, on TICK 0", order.shows(0, 0, NONE, 10), 2);
        Check.due("the CRANK's, on TICK 4", order.shows(0, 0, NONE, 11), 0);
    }

    private static void atOnceGoesOnFirst() {
        Check.by("what is struck at once goes on first");
        DroppingBalls x = Check.with("10x10h10=5x99;s10;m1,2");
        x.work(FIGURE, 0, NONE);
        x.work(0, 0, 0);
        x.work(FIGURE, 0, 1);
        x.head(2);
        // The first BALL's strike goes on to 0, which sticks, ahead of the second BALL, by which 2 sticks.
        showing("ahead of the next BALL", x, 0, 1, 0, 0);
        DroppingBalls y = Check.with("10x10h10=5x99;s10;m1,2");
        y.work(FIGURE, 1, NONE);
        y.work(FIGURE, 1, 0);
        y.work(CRANK, 2, 1);
        y.head(2);
        showing("ahead of the next CRANK", y, 0, 1, 0, 2);
    }

    // ---- what is told of it

    private static void whatShowsTells() {
        Check.by("OUTSIDE: what (10 to 29 else)");
        DroppingBalls x = Check.withMarks("1");
        for (int what = -5; what <= 45; what++) {
            int want = what == 0 || what == 1 ? 0 : what == 2 || what == 3 || what >= 10 && what <= 29 ? NONE : OUTSIDE;
            Check.due("shows(0, 0, NONE, " + what + ")", x.shows(0, 0, NONE, what), want);
            Check.due("shows(1, 0, NONE, " + what + ")", x.shows(1, 0, NONE, what), UNKNOWN);
        }
        Check.due("the least what", x.shows(0, 0, NONE, Integer.MIN_VALUE), OUTSIDE);
        Check.due("the greatest what", x.shows(0, 0, NONE, Integer.MAX_VALUE), OUTSIDE);
    }

    private static void twentyFigures() {
        Check.by("10 and i: the i-th FIGURE that came out (its WORK; NONE)");
        int[] doors = {1, 3, 4, 3, 4};
        int[] balls = {12, 6, 5, 7, 12};
        for (int k = 0; k < doors.length; k++) {
            DroppingBalls x = Check.withMarks(Check.marks(balls[k], 3));
            for (int door = 0; door < doors[k]; door++) {
                x.work(FIGURE, door, door - 1);
            }
            x.head(doors[k] - 1);
            int many = doors[k] * balls[k];
            showing(many + " FIGURES", x, 0, many, NONE, NONE);
            for (int i = 0; i < 20; i++) {
                Check.due(many + " FIGURES: " + i, x.shows(0, 0, NONE, 10 + i), i < many ? doors[k] - 1 - i % doors[k] : NONE);
            }
            Check.due(many + " FIGURES: 20", x.shows(0, 0, NONE, 30), OUTSIDE);
        }
    }
}
