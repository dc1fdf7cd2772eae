/** Promises 8 to 12 and 18: FAULTS and WORKS as they are told, and what WORKS do. */
public final class WorksTest {
    private static final int NONE = DroppingBalls.NONE;
    private static final int UNKNOWN = DroppingBalls.UNKNOWN;
    private static final int OUTSIDE = DroppingBalls.OUTSIDE;
    private static final int FULL = DroppingBalls.FULL;
    private static final int FIGURE = 2;
    private static final int GONG = 1;
    private static final int CRANK = 3;
    private static final int COUNT = 4;

    private WorksTest() {
    }

    public static void main(String[] args) {
        promise8();
        promise9();
        promise10();
        promise11();
        promise12();
        gongs();
        figures();
        doors();
        cranks();
        crankOrder();
        manyCranks();
        counts();
        manyFigures();
        promise18Refusals();
        Check.end();
    }

    private static void showing(String name, DroppingBalls x, int strokes, int out, int stuck, int tick) {
        Check.due(name + ": strokes", x.shows(0, 0, NONE, 0), strokes);
        Check.due(name + ": came out", x.shows(0, 0, NONE, 1), out);
        Check.due(name + ": what sticks", x.shows(0, 0, NONE, 2), stuck);
        Check.due(name + ": when it sticks", x.shows(0, 0, NONE, 3), tick);
    }

    private static void promise8() {
        Check.by("A FAULT: its number. OUTSIDE: kind, vessel (0 to 2), n, from; FULL.");
        DroppingBalls x = new DroppingBalls();
        int[][] outside = {{-1, 0, 1, 0}, {5, 0, 1, 0}, {1, -1, 1, 0}, {1, 3, 1, 0}, {1, 0, 0, 0},
            {1, 0, 21, 0}, {0, 0, 0, 0}, {1, 0, 1, -1}, {1, 0, 1, 96}};
        for (int[] o : outside) {
            Check.due("faulty: outside", x.faulty(o[0], o[1], o[2], o[3]), OUTSIDE);
        }
        Check.due("faulty: none made", x.count(1), 0);
        for (int i = 0; i < 8; i++) {
            Check.due("faulty: number", x.faulty(i % 5, i % 3, i == 0 ? 20 : i, i == 1 ? 95 : 0), i);
        }
        Check.due("faulty: full", x.faulty(0, 0, 1, 0), FULL);
        Check.due("faulty: outside is told ahead of full", x.faulty(0, 0, 0, 0), OUTSIDE);
        Check.due("faulty: eight", x.count(1), 8);
    }

    private static void promise9() {
        Check.by("A FAULT taken as a KIND: its own number (not that of the KIND); NONE: it is none such (the cast fails). UNKNOWN; OUTSIDE.");
        DroppingBalls x = new DroppingBalls();
        for (int own = 0; own <= 4; own++) {
            x.faulty(own, 0, 1, 0);
        }
        for (int own = 0; own <= 4; own++) {
            for (int kind = 0; kind <= 4; kind++) {
                boolean is = kind == 0 || kind == own || own == 2 && kind == 1;
                Check.due("as: " + own + " as " + kind, x.as(own, kind), is ? own : NONE);
            }
            Check.due("as: kind -1", x.as(own, -1), OUTSIDE);
            Check.due("as: kind 5", x.as(own, 5), OUTSIDE);
        }
        Check.due("as: fault 5, unknown first", x.as(5, 5), UNKNOWN);
        Check.due("as: fault -1", x.as(-1, 0), UNKNOWN);
    }

    private static void promise10() {
        Check.by("A WORK that strikes another one (NONE: none): its number. OUTSIDE: kind, n (0 of a WORK); UNKNOWN: next; FULL.");
        DroppingBalls x = new DroppingBalls();
        int[] least = {0, 0, 0, 1, 2};
        int[] most = {0, 9, 3, 9, 5};
        for (int kind = 0; kind <= 4; kind++) {
            Check.due("work: below, kind " + kind, x.work(kind, least[kind] - 1, NONE), OUTSIDE);
            Check.due("work: above, kind " + kind, x.work(kind, most[kind] + 1, NONE), OUTSIDE);
        }
        Check.due("work: kind -1", x.work(-1, 0, NONE), OUTSIDE);
        Check.due("work: kind 5", x.work(5, 2, NONE), OUTSIDE);
        Check.due("work: itself", x.work(0, 0, 0), UNKNOWN);
        Check.due("work: next -2", x.work(0, 0, -2), UNKNOWN);
        Check.due("work: outside is told first", x.work(0, 1, 0), OUTSIDE);
        for (int kind = 0; kind <= 4; kind++) {
            Check.due("work: least", x.work(kind, least[kind], NONE), 2 * kind);
            Check.due("work: most", x.work(kind, most[kind], 2 * kind), 2 * kind + 1);
        }
        Check.due("work: full", x.work(0, 0, 9), FULL);
        Check.due("work: unknown is told ahead of full", x.work(0, 0, 10), UNKNOWN);
        Check.due("work: outside is told ahead of full", x.work(0, 1, 10), OUTSIDE);
        Check.due("work: ten", x.count(2), 10);
    }

    private static void promise11() {
        Check.by("A WORK taken as a KIND: its number; NONE: it is none such (the cast fails). UNKNOWN; OUTSIDE.");
        DroppingBalls x = new DroppingBalls();
        for (int own = 0; own <= 4; own++) {
            x.work(own, own < 3 ? 0 : 2, NONE);
        }
        for (int own = 0; own <= 4; own++) {
            for (int kind = 0; kind <= 4; kind++) {
                boolean is = kind == 0 || kind == own || own == 4 && kind == 3;
                Check.due("workAs: " + own + " as " + kind, x.workAs(own, kind), is ? own : NONE);
            }
            Check.due("workAs: kind -1", x.workAs(own, -1), OUTSIDE);
            Check.due("workAs: kind 5", x.workAs(own, 5), OUTSIDE);
        }
        Check.due("workAs: work 5, unknown first", x.workAs(5, 5), UNKNOWN);
        Check.due("workAs: work -1", x.workAs(-1, 0), UNKNOWN);
    }

    private static void promise12() {
        Check.by("The HEAD becomes a WORK (NONE: none): which it was (NONE). UNKNOWN.");
        DroppingBalls x = new DroppingBalls();
        Check.due("head: none told", x.head(0), UNKNOWN);
        x.work(GONG, 0, NONE);
        x.work(GONG, 1, NONE);
        Check.due("head: was none", x.head(1), NONE);
        Check.due("head: was 1", x.head(0), 1);
        Check.due("head: 2", x.head(2), UNKNOWN);
        Check.due("head: -2", x.head(-2), UNKNOWN);
        Check.due("head: was 0", x.head(NONE), 0);
        Check.due("head: was none again", x.head(NONE), NONE);
    }

    private static void gongs() {
        Check.by("What WORKS do in a RUN: what = 0 strokes of GONGS,",
                "a GONG (n 0 to 9) gives as many strokes as BALLS have struck the HEAD so far, and n, and strikes on;");
        DroppingBalls x = Check.withMarks("1,5,9");
        showing("no head", x, 0, 0, NONE, NONE);
        x.work(GONG, 2, NONE);
        showing("gong, no head", x, 0, 0, NONE, NONE);
        x.head(0);
        showing("gong", x, 3 + 4 + 5, 0, NONE, NONE);
        x.work(0, 0, 0);
        x.work(GONG, 0, 1);
        x.head(2);
        showing("gong, work, gong", x, 12 + 6, 0, NONE, NONE);
        int clog = x.faulty(1, 0, 20, 4);
        Check.due("gong with a fault", x.shows(0, 0, clog, 0), 1 + 3);
        x.season(1, 0, 50);
        Check.due("gong in a colder season: as often", x.shows(0, 1, NONE, 0), 18);
    }

    private static void figures() {
        Check.by("1 how often FIGURES came out, 2 the first WORK that STICKS (NONE), 3 the TICK on which it does (NONE),",
                "stays out on this TICK and the two behind it, and strikes on; else it STICKS: from then on nothing strikes it;");
        DroppingBalls x = Check.withMarks("1,4,7");
        x.work(GONG, 0, NONE);
        x.work(FIGURE, 0, 0);
        x.head(1);
        showing("figure each third tick", x, 1 + 2 + 3, 3, NONE, NONE);
        DroppingBalls y = Check.withMarks("1,3,10");
        y.work(GONG, 0, NONE);
        y.work(FIGURE, 0, 0);
        y.head(1);
        showing("figure that is out", y, 1, 1, 1, 2);
        Check.due("figure: the first that came out", y.shows(0, 0, NONE, 10), 1);
        Check.due("figure: no second one", y.shows(0, 0, NONE, 11), NONE);
    }

    private static void doors() {
        Check.by("a FIGURE at DOOR n (0 to 3) comes out, if none is out at that DOOR (itself, too), stays out");
        DroppingBalls x = Check.withMarks("1,2,3,4");
        x.work(GONG, 9, NONE);
        x.work(FIGURE, 3, 0);
        x.work(FIGURE, 3, 1);
        x.head(2);
        // TICK 0: 2 comes out, 1 sticks; TICK 1: 2 sticks.
        showing("two figures at a door", x, 0, 1, 1, 0);
        DroppingBalls y = Check.withMarks("1,2,3,4");
        y.work(GONG, 9, NONE);
        y.work(FIGURE, 2, 0);
        y.work(FIGURE, 3, 1);
        y.head(2);
        showing("figures at two doors", y, 10, 2, 2, 1);
        Check.due("figures at two doors: first", y.shows(0, 0, NONE, 10), 2);
        Check.due("figures at two doors: second", y.shows(0, 0, NONE, 11), 1);
    }

    private static void cranks() {
        Check.by("a CRANK (n 1 to 9) strikes on n TICKS later (not, if that is behind TICK 95);");
        DroppingBalls x = Check.withMarks("1,5,9");
        x.work(GONG, 0, NONE);
        x.work(CRANK, 5, 0);
        x.work(CRANK, 4, 0);
        x.head(1);
        showing("crank 5", x, 2 + 3 + 3, 0, NONE, NONE);
        x.head(2);
        showing("crank 4: ahead of the ball", x, 1 + 2 + 3, 0, NONE, NONE);
        DroppingBalls y = Check.withMarks("94,95,96");
        y.work(GONG, 0, NONE);
        y.work(CRANK, 1, 0);
        y.work(CRANK, 1, 1);
        y.work(CRANK, 9, 0);
        y.head(1);
        showing("crank 1 until tick 95", y, 1 + 2, 0, NONE, NONE);
        y.head(2);
        showing("two cranks until tick 95", y, 2, 0, NONE, NONE);
        y.head(3);
        showing("crank 9 behind tick 95", y, 0, 0, NONE, NONE);
        y.work(CRANK, 9, NONE);
        y.head(4);
        showing("a crank that strikes none", y, 0, 0, NONE, NONE);
    }

    /** On TICK 7 the first crank (struck on 3) strikes ahead of the second (struck on 4). */
    private static void crankOrder() {
        Check.by("On a TICK first what comes of CRANKS, in the order in which these were struck, then BALLS, in their order;");
        DroppingBalls x = Check.withMarks("1,4");
        x.work(FIGURE, 0, NONE);
        x.work(CRANK, 3, 0);
        x.work(FIGURE, 0, 1);
        x.work(CRANK, 4, 2);
        x.head(3);
        showing("cranks in the order in which they were struck", x, 0, 2, 0, 7);
        Check.due("crank order: first", x.shows(0, 0, NONE, 10), 2);
        Check.due("crank order: second", x.shows(0, 0, NONE, 11), 2);
        Check.due("crank order: no third", x.shows(0, 0, NONE, 12), NONE);
    }

    /** Twelve BALLS through nine cranks: the gong is struck on TICKS 9 to 20. */
    private static void manyCranks() {
        DroppingBalls x = Check.withMarks("1,2,3,4,5,6,7,8,9,10,11,12");
        x.work(GONG, 0, NONE);
        for (int i = 1; i < 10; i++) {
            x.work(CRANK, 1, i - 1);
        }
        x.head(9);
        showing("many cranks", x, 9 + 10 + 11 + 9 * 12, 0, NONE, NONE);
        x.head(NONE);
        showing("none left of them", x, 0, 0, NONE, NONE);
        x.head(0);
        showing("nor with another head", x, 78, 0, NONE, NONE);
    }

    private static void counts() {
        Check.by("a COUNT (n 2 to 5) strikes on at once each n-th time that it is struck.");
        DroppingBalls x = Check.withMarks("1,2,3,4,5,6,7");
        x.work(GONG, 0, NONE);
        x.work(COUNT, 3, 0);
        x.work(COUNT, 2, 1);
        x.head(1);
        showing("count 3", x, 3 + 6, 0, NONE, NONE);
        showing("count 3, from anew in each run", x, 3 + 6, 0, NONE, NONE);
        x.head(2);
        showing("count 2 of count 3", x, 6, 0, NONE, NONE);
    }

    private static void manyFigures() {
        Check.by("10 and i: the i-th FIGURE that came out (its WORK; NONE).");
        DroppingBalls x = Check.withMarks("1,4,7,10,13,16,19,22,25,28,31,34");
        for (int door = 0; door < 4; door++) {
            x.work(FIGURE, door, door - 1);
        }
        x.head(3);
        showing("48 figures", x, 0, 48, NONE, NONE);
        for (int i = 0; i < 20; i++) {
            Check.due("48 figures: " + i, x.shows(0, 0, NONE, 10 + i), 3 - i % 4);
        }
        Check.due("48 figures: 20", x.shows(0, 0, NONE, 30), OUTSIDE);
    }

    private static void promise18Refusals() {
        Check.by("OUTSIDE: what (10 to 29 else).");
        DroppingBalls x = Check.withMarks("1");
        int[] outside = {-1, 4, 9, 30, Integer.MIN_VALUE, Integer.MAX_VALUE};
        for (int what : outside) {
            Check.due("shows: what " + what, x.shows(0, 0, NONE, what), OUTSIDE);
        }
        Check.due("shows: clock, unknown first", x.shows(1, 0, NONE, 4), UNKNOWN);
        Check.due("shows: season", x.shows(0, 4, NONE, 0), UNKNOWN);
        Check.due("shows: fault", x.shows(0, 0, 0, 0), UNKNOWN);
        Check.due("shows: no figure", x.shows(0, 0, NONE, 29), NONE);
    }
}
