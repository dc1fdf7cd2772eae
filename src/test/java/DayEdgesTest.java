/** Bounds of a DAY and of FAULTS in it (promises 7 and 13 to 17), sentence by sentence. */
public final class DayEdgesTest {
    private static final int NONE = DroppingBalls.NONE;
    private static final int UNKNOWN = DroppingBalls.UNKNOWN;
    private static final int OUTSIDE = DroppingBalls.OUTSIDE;
    private static final int CLOG = 1;
    private static final int WEAR = 2;
    private static final int LEAK = 3;
    private static final int COLD = 4;
    /** Ten drops a TICK, LEVEL of the CYLINDER behind TICK t is t + 1: it is never full. */
    private static final String STEADY = "10x10h10=10x99;s10;m99";
    private static final String TWELVE = Check.marks(12, 1);

    private DayEdgesTest() {
    }

    public static void main(String[] args) {
        seasons();
        warmthAndDaylight();
        ninetySixTicks();
        fullAtFirst();
        roundedDown();
        whatItHasAtMost();
        levels();
        runsOver();
        runsOverFurtherOn();
        ballsDrop();
        ballsThatDropTogether();
        siphon();
        siphonAndBalls();
        trueTicks();
        errorsOfBallsThatDoNotDrop();
        errorOfNothing();
        whatAtTells();
        even();
        means();
        faultNumbers();
        faultTicks();
        clogs();
        leaks();
        colds();
        vesselsOfFaults();
        Check.end();
    }

    private static int atEnd(DroppingBalls x, int fault, int what) {
        return x.at(0, 0, fault, 95, what);
    }

    // ---- SEASONS

    private static void seasons() {
        Check.by("SEASONS 0 to 3 have WARMTH (50 to 150; 100 at first), and DAYLIGHT (24 to 72; 48 at first)");
        DroppingBalls x = new DroppingBalls();
        for (int s = 0; s < 4; s++) {
            Check.due("WARMTH of " + s, x.season(s, 0, 51 + s), 100);
            Check.due("DAYLIGHT of " + s, x.season(s, 1, 25 + s), 48);
        }
        for (int s = 0; s < 4; s++) {
            Check.due("WARMTH of " + s + " then", x.season(s, 0, 100), 51 + s);
            Check.due("DAYLIGHT of " + s + " then", x.season(s, 1, 48), 25 + s);
        }
        for (int s : new int[] {-1, 4, Integer.MIN_VALUE, Integer.MAX_VALUE}) {
            Check.due("WARMTH of season " + s, x.season(s, 0, 100), UNKNOWN);
            Check.due("what 2 of season " + s, x.season(s, 2, 0), UNKNOWN);
        }
        for (int what : new int[] {-1, 2, Integer.MIN_VALUE, Integer.MAX_VALUE}) {
            Check.due("what " + what, x.season(0, what, 60), OUTSIDE);
        }
    }

    private static void warmthAndDaylight() {
        int[] least = {50, 24};
        int[] most = {150, 72};
        int[] first = {100, 48};
        for (int what = 0; what <= 1; what++) {
            DroppingBalls x = new DroppingBalls();
            int was = first[what];
            for (int v = -3; v <= 160; v++) {
                boolean fits = v >= least[what] && v <= most[what];
                Check.due("season(3, " + what + ", " + v + ")", x.season(3, what, v), fits ? was : OUTSIDE);
                was = fits ? v : was;
            }
            Check.due("it is the last that fits", x.season(3, what, least[what]), most[what]);
            Check.due("least", x.season(3, what, most[what]), least[what]);
            Check.due("far below", x.season(3, what, Integer.MIN_VALUE), OUTSIDE);
            Check.due("far above", x.season(3, what, Integer.MAX_VALUE), OUTSIDE);
            Check.due("the other is as it was", x.season(3, 1 - what, first[1 - what]), first[1 - what]);
        }
    }

    // ---- water

    private static void ninetySixTicks() {
        Check.by("A DAY has 96 TICKS, 0 to 95");
        DroppingBalls x = Check.with(STEADY);
        for (int tick = -2; tick <= 98; tick++) {
            Check.due("at " + tick, x.at(0, 0, NONE, tick, 3), tick < 0 || tick > 95 ? OUTSIDE : 10 * tick + 10);
        }
        Check.due("at the least number", x.at(0, 0, NONE, Integer.MIN_VALUE, 3), OUTSIDE);
        Check.due("at the greatest number", x.at(0, 0, NONE, Integer.MAX_VALUE, 3), OUTSIDE);
        Check.due("a BALL on the last TICK", Check.withMarks("96").drops(0, 0, NONE, 0), 95);
        Check.due("a BALL behind it", Check.withMarks("97").drops(0, 0, NONE, 0), NONE);
        Check.due("a BALL on TICK 0", Check.withMarks("1").drops(0, 0, NONE, 0), 0);
    }

    private static void fullAtFirst() {
        Check.by("Ahead of TICK 0 all VESSELS are full (AREA times HEIGHT drops), the CYLINDER is empty");
        DroppingBalls x = Check.with("30x60h1>29x59h1>28x58h1=99x99;s0;m99");
        int[] want = {1800 - 6, 1711 - 5, 1624 - 5, 5, 0, 6 + 5, 0, 0};
        for (int what = 0; what <= 7; what++) {
            Check.due("behind TICK 0: " + what, x.at(0, 0, NONE, 0, what), want[what]);
        }
        DroppingBalls y = Check.with("1x1h1>1x1h1>1x1h1=1x1;s0;m1");
        int[] least = {1, 1, 1, 0, 0, 0, 0, 0};
        for (int what = 0; what <= 7; what++) {
            Check.due("of the least one: " + what, atEnd(y, NONE, what), least[what]);
        }
    }

    private static void roundedDown() {
        Check.by("HOLE times LEVEL times WARMTH, by 1000, rounded down");
        String[] vessels = {"1x10h1", "1x10h1", "1x20h1", "1x20h1", "1x19h1", "1x13h1", "1x14h1", "2x37h19", "2x37h20"};
        int[] warmth = {100, 99, 50, 51, 50, 150, 150, 100, 100};
        int[] want = {1, 0, 1, 1, 0, 1, 2, 70, 74};
        for (int i = 0; i < vessels.length; i++) {
            DroppingBalls x = Check.with(vessels[i] + "=99x99;s0;m99");
            x.season(0, 0, warmth[i]);
            Check.due(vessels[i] + " by a WARMTH of " + warmth[i], x.at(0, 0, NONE, 0, 3), want[i]);
        }
        DroppingBalls x = Check.with("30x60h40=99x99;s0;m99");
        for (int warm = 50; warm <= 150; warm++) {
            x.season(2, 0, warm);
            Check.due("by a WARMTH of " + warm, x.at(0, 2, NONE, 0, 3), 2400 * warm / 1000);
        }
    }

    private static void whatItHasAtMost() {
        Check.by("(what it has at most), go out");
        for (int hole = 1; hole <= 40; hole++) {
            DroppingBalls x = Check.with("1x10h" + hole + "=99x99;s0;m99");
            Check.due("cylinder by a HOLE of " + hole, x.at(0, 0, NONE, 0, 3), Math.min(10, hole));
            Check.due("vessel by a HOLE of " + hole, x.at(0, 0, NONE, 0, 0), Math.max(0, 10 - hole));
            Check.due("never more than there was", atEnd(x, NONE, 0) + atEnd(x, NONE, 3), 10);
        }
    }

    private static void levels() {
        Check.by("LEVEL is drops by AREA, rounded down");
        DroppingBalls x = Check.with("5x2h25=99x99;s0;m99");
        int[] vessel = {5, 3, 3};
        for (int tick = 0; tick < 3; tick++) {
            Check.due("of an AREA of 5, behind TICK " + tick, x.at(0, 0, NONE, tick, 0), vessel[tick]);
        }
        DroppingBalls y = Check.with("10x2h25=99x99;s0;m99");
        int[] other = {15, 13, 11, 9, 9};
        for (int tick = 0; tick < other.length; tick++) {
            Check.due("of an AREA of 10, behind TICK " + tick, y.at(0, 0, NONE, tick, 0), other[tick]);
        }
    }

    private static void runsOver() {
        Check.by("What would be above full in a VESSEL runs over (it is gone) as soon as it comes");
        for (int supply = 0; supply <= 60; supply++) {
            DroppingBalls x = Check.with("10x10h10=10x99;s" + supply + ";m99");
            Check.due("behind TICK 0, SUPPLY " + supply, x.at(0, 0, NONE, 0, 5), supply);
            Check.due("behind TICK 1, SUPPLY " + supply, x.at(0, 0, NONE, 1, 5), supply + Math.max(0, supply - 10));
            Check.due("what drips then, SUPPLY " + supply, x.at(0, 0, NONE, 1, 3), supply < 10 ? 19 : 20);
        }
        DroppingBalls y = Check.with("1x1h1=1x1;s1;m1");
        Check.due("a SUPPLY of 1 to a full VESSEL", atEnd(y, NONE, 5), 96);
        Check.due("it stays full", atEnd(y, NONE, 0), 1);
    }

    private static void runsOverFurtherOn() {
        DroppingBalls x = Check.with("10x10h20>1x5h10=10x99;s0;m99");
        Check.due("to a full second VESSEL", x.at(0, 0, NONE, 0, 5), 20);
        Check.due("it drips what it held", x.at(0, 0, NONE, 0, 3), 5);
        Check.due("to an empty second VESSEL", x.at(0, 0, NONE, 1, 5), 20 + 11);
        Check.due("it drips what it could hold", x.at(0, 0, NONE, 1, 3), 10);
        DroppingBalls exact = Check.with("10x10h10>10x10h10=10x99;s10;m99");
        Check.due("what makes it full does not run over", atEnd(exact, NONE, 5), 20);
        DroppingBalls above = Check.with("10x10h10>10x10h9=10x99;s10;m99");
        Check.due("one above full", above.at(0, 0, NONE, 1, 5), 21);
        Check.due("one above full each TICK", atEnd(above, NONE, 5), 20 + 95);
        DroppingBalls third = Check.with("10x10h10>10x10h10>10x10h9=10x99;s10;m99");
        Check.due("from the third VESSEL", third.at(0, 0, NONE, 1, 5), 31);
        Check.due("from the third VESSEL each TICK", atEnd(third, NONE, 5), 30 + 95);
    }

    // ---- BALLS

    private static void ballsDrop() {
        Check.by("BALL i drops on the first TICK at the end of 2 of which LEVEL of the CYLINDER is MARK i at least");
        for (int area = 9; area <= 11; area++) {
            for (int mark = 1; mark <= 99; mark += 7) {
                DroppingBalls x = Check.with("10x10h10=" + area + "x99;s10;m" + mark);
                int ticks = (area * mark + 9) / 10;
                String of = " of MARK " + mark + " by an AREA of " + area;
                Check.due("the TICK" + of, x.drops(0, 0, NONE, 0), ticks <= 96 ? ticks - 1 : NONE);
                Check.due("ahead" + of, ticks < 2 || ticks > 97 ? 0 : x.at(0, 0, NONE, ticks - 2, 4), 0);
                Check.due("on it" + of, ticks > 96 ? 1 : x.at(0, 0, NONE, ticks - 1, 4), 1);
            }
        }
        DroppingBalls x = Check.withMarks("1,96,97");
        int[] balls = {-1, 0, 1, 2, 3, Integer.MIN_VALUE, Integer.MAX_VALUE};
        int[] want = {UNKNOWN, 0, 95, NONE, UNKNOWN, UNKNOWN, UNKNOWN};
        for (int i = 0; i < balls.length; i++) {
            Check.due("BALL " + balls[i], x.drops(0, 0, NONE, balls[i]), want[i]);
        }
    }

    private static void ballsThatDropTogether() {
        DroppingBalls x = Check.with("1x60h40=5x99;s0;m" + TWELVE);
        for (int ball = 0; ball < 12; ball++) {
            Check.due("BALL " + ball + " of twelve", x.drops(0, 0, NONE, ball), 0);
        }
        Check.due("BALL 12 of twelve", x.drops(0, 0, NONE, 12), UNKNOWN);
        Check.due("all on TICK 0", x.at(0, 0, NONE, 0, 4), 12);
        DroppingBalls y = Check.with("1x59h40=5x99;s0;m" + TWELVE);
        Check.due("all but one", atEnd(y, NONE, 4), 11);
        Check.due("the last one", y.drops(0, 0, NONE, 11), NONE);
        Check.due("the last but one", y.drops(0, 0, NONE, 10), 0);
    }

    private static void siphon() {
        Check.by("If LEVEL of the CYLINDER is HEIGHT or more, and all BALLS have dropped, the SIPHON empties it");
        for (int height = 1; height <= 99; height++) {
            DroppingBalls x = Check.with("10x10h10=10x" + height + ";s10;m1");
            String of = ", HEIGHT " + height;
            Check.due("how often" + of, atEnd(x, NONE, 7), 96 / height);
            Check.due("what is left" + of, atEnd(x, NONE, 3), 10 * (96 % height));
            if (height > 1 && height <= 96) {
                Check.due("ahead of it" + of, x.at(0, 0, NONE, height - 2, 3), 10 * (height - 1));
                Check.due("on its TICK" + of, x.at(0, 0, NONE, height - 1, 3), 0);
                Check.due("once by then" + of, x.at(0, 0, NONE, height - 1, 7), 1);
            }
        }
        DroppingBalls above = Check.with("30x60h40=1x99;s0;m99");
        Check.due("LEVEL far above HEIGHT", above.at(0, 0, NONE, 0, 3), 0);
        Check.due("once", above.at(0, 0, NONE, 0, 7), 1);
        DroppingBalls level = Check.with("10x10h10=11x1;s10;m1");
        Check.due("LEVEL rounded down", level.at(0, 0, NONE, 0, 3), 10);
        Check.due("every other TICK", atEnd(level, NONE, 7), 48);
    }

    private static void siphonAndBalls() {
        DroppingBalls x = Check.with("10x10h10=10x1;s10;m2");
        Check.due("not ahead of the last BALL", x.at(0, 0, NONE, 0, 7), 0);
        Check.due("on the TICK of the last BALL", x.at(0, 0, NONE, 1, 7), 1);
        Check.due("each TICK from then on", atEnd(x, NONE, 7), 95);
        Check.due("the BALL dropped once", atEnd(x, NONE, 4), 1);
        DroppingBalls y = Check.with("10x10h10=10x1;s10;m1,96");
        Check.due("not until the last TICK", y.at(0, 0, NONE, 94, 7), 0);
        Check.due("on the last TICK", atEnd(y, NONE, 7), 1);
        DroppingBalls z = Check.with("10x10h10=10x1;s10;m1,97");
        Check.due("never with a BALL left", atEnd(z, NONE, 7), 0);
        Check.due("nothing is gone", atEnd(z, NONE, 3), 960);
    }

    // ---- hours

    private static void trueTicks() {
        Check.by("THE TRUE TICK of HOUR i (from 0): i and 1 times DAYLIGHT, by how many MARKS there are, rounded down");
        for (int many = 1; many <= 12; many++) {
            String marks = Check.marks(many, 1);
            for (int daylight = 24; daylight <= 72; daylight++) {
                DroppingBalls x = Check.withMarks(marks);
                x.season(3, 1, daylight);
                for (int ball = 0; ball < many; ball++) {
                    Check.due("BALL " + ball + " of " + many + " by a DAYLIGHT of " + daylight, x.error(0, 3, NONE, ball),
                            ball - (ball + 1) * daylight / many);
                }
            }
        }
    }

    private static void errorsOfBallsThatDoNotDrop() {
        Check.by("the TICK on which it drops, less that (96 in place of the TICK, if it does not drop)");
        DroppingBalls x = Check.with("1x1h1=1x1;s0;m" + TWELVE);
        x.season(1, 1, 24);
        x.season(2, 1, 72);
        for (int ball = 0; ball < 12; ball++) {
            Check.due("BALL " + ball + " by the least DAYLIGHT", x.error(0, 1, NONE, ball), 96 - 2 * (ball + 1));
            Check.due("BALL " + ball + " by the greatest DAYLIGHT", x.error(0, 2, NONE, ball), 96 - 6 * (ball + 1));
        }
        DroppingBalls y = Check.withMarks("1");
        y.season(0, 1, 72);
        Check.due("the least ERROR", y.error(0, 0, NONE, 0), -72);
        DroppingBalls z = Check.withMarks("96");
        Check.due("on TICK 95", z.error(0, 0, NONE, 0), 95 - 48);
        DroppingBalls never = Check.withMarks("97");
        Check.due("never", never.error(0, 0, NONE, 0), 96 - 48);
    }

    private static void errorOfNothing() {
        Check.by("ERROR (it may be below 0). -1001: UNKNOWN");
        DroppingBalls x = Check.withMarks("1,2,3");
        x.faulty(0, 0, 1, 0);
        int[][] unknown = {{-1, 0, NONE, 0}, {1, 0, NONE, 0}, {0, -1, NONE, 0}, {0, 4, NONE, 0}, {0, 0, -2, 0},
            {0, 0, 1, 0}, {0, 0, NONE, -1}, {0, 0, NONE, 3}, {9, 9, 9, 9}};
        for (int[] u : unknown) {
            Check.due("error", x.error(u[0], u[1], u[2], u[3]), -1001);
            Check.due("drops", x.drops(u[0], u[1], u[2], u[3]), UNKNOWN);
        }
        Check.due("of the last ones", x.error(0, 3, 0, 2), 2 - 48);
    }

    private static void whatAtTells() {
        Check.by("what = 0 to 2 drops in a VESSEL (NONE: no such VESSEL), 3 drops in the CYLINDER, 4 how many BALLS have dropped",
                "5 drops run over so far, 6 leaked so far, 7 how often the SIPHON emptied. OUTSIDE: tick, what");
        String[] texts = {"10x10h10=10x1;s11;m1", "10x10h10>10x10h10=10x1;s11;m1", "10x10h10>10x10h10>10x10h10=10x1;s11;m1"};
        int[][] want = {{90 - 2, NONE, NONE, 0, 1, 11, 2, 1}, {88, 90, NONE, 0, 1, 21, 2, 1}, {88, 90, 90, 0, 1, 31, 2, 1}};
        for (int many = 0; many < 3; many++) {
            DroppingBalls x = Check.with(texts[many]);
            int leak = x.faulty(LEAK, 0, 2, 0);
            for (int what = -3; what <= 12; what++) {
                Check.due("at(0, 0, 0, 0, " + what + ") of " + texts[many], x.at(0, 0, leak, 0, what),
                        what < 0 || what > 7 ? OUTSIDE : want[many][what]);
            }
            Check.due("what of all", x.at(0, 0, leak, 0, Integer.MIN_VALUE), OUTSIDE);
            Check.due("what of all", x.at(0, 0, leak, 0, Integer.MAX_VALUE), OUTSIDE);
        }
    }

    private static void even() {
        Check.by("EVEN: the least, the greatest that comes into the CYLINDER in a TICK");
        DroppingBalls x = Check.with("10x10h10=10x99;s60;m99");
        int[][] faults = {{CLOG, 0}, {CLOG, 1}, {CLOG, 95}, {WEAR, 0}, {WEAR, 1}, {WEAR, 95}};
        int[] least = {8, 8, 8, 12, 10, 10};
        int[] most = {8, 10, 10, 12, 12, 12};
        for (int i = 0; i < faults.length; i++) {
            int fault = x.faulty(faults[i][0], 0, 2, faults[i][1]);
            Check.due("least, KIND " + faults[i][0] + " from " + faults[i][1], x.even(0, 0, fault, 0), least[i]);
            Check.due("greatest, KIND " + faults[i][0] + " from " + faults[i][1], x.even(0, 0, fault, 1), most[i]);
        }
        for (int what : new int[] {-1, 2, Integer.MIN_VALUE, Integer.MAX_VALUE}) {
            Check.due("what " + what, x.even(0, 0, NONE, what), OUTSIDE);
            Check.due("what " + what + " of no FAULT", x.even(0, 0, 6, what), UNKNOWN);
        }
        DroppingBalls nothing = Check.with("1x1h1=1x1;s0;m1");
        Check.due("least of nothing", nothing.even(0, 0, NONE, 0), 0);
        Check.due("greatest of nothing", nothing.even(0, 0, NONE, 1), 0);
        DroppingBalls once = Check.with("1x60h40=1x99;s0;m1");
        Check.due("least behind all at once", once.even(0, 0, NONE, 0), 0);
        Check.due("greatest: all at once", once.even(0, 0, NONE, 1), 60);
    }

    private static void means() {
        Check.by("MEAN, in lowest terms: part 0 above, 1 below");
        for (int many = 1; many <= 12; many++) {
            String marks = Check.marks(many, 1);
            for (int daylight = 24; daylight <= 72; daylight++) {
                DroppingBalls x = Check.withMarks(marks);
                x.season(0, 1, daylight);
                int sum = 0;
                for (int ball = 0; ball < many; ball++) {
                    sum += Math.abs(ball - (ball + 1) * daylight / many);
                }
                int common = java.math.BigInteger.valueOf(sum).gcd(java.math.BigInteger.valueOf(many)).intValue();
                Check.due("above, " + many + " by a DAYLIGHT of " + daylight, x.mean(0, 0, NONE, 0), sum / common);
                Check.due("below, " + many + " by a DAYLIGHT of " + daylight, x.mean(0, 0, NONE, 1), many / common);
            }
        }
        DroppingBalls exact = Check.withMarks("17,33,49");
        Check.due("nothing is off: above", exact.mean(0, 0, NONE, 0), 0);
        Check.due("nothing is off: below", exact.mean(0, 0, NONE, 1), 1);
        for (int part : new int[] {-1, 2, Integer.MIN_VALUE, Integer.MAX_VALUE}) {
            Check.due("part " + part, exact.mean(0, 0, NONE, part), OUTSIDE);
            Check.due("part " + part + " of no SEASON", exact.mean(0, 4, NONE, part), UNKNOWN);
        }
    }

    // ---- FAULTS in a RUN

    private static void faultNumbers() {
        Check.by("a number n (1 to 20)", "a CLOG: HOLE of VESSEL v is n less (0 at least); a WEAR: n more",
                "are gone from VESSEL v; COLD: WARMTH is n less");
        for (int n = 1; n <= 20; n++) {
            DroppingBalls x = Check.with(STEADY);
            for (int kind = 0; kind <= 4; kind++) {
                x.faulty(kind, 0, n, 0);
            }
            Check.due("FAULT of " + n, x.at(0, 0, 0, 0, 3), 10);
            Check.due("CLOG of " + n, x.at(0, 0, CLOG, 0, 3), Math.max(0, 10 - n));
            Check.due("WEAR of " + n, x.at(0, 0, WEAR, 0, 3), 10 + n);
            Check.due("LEAK of " + n, x.at(0, 0, LEAK, 0, 3), 10);
            Check.due("LEAK of " + n + ", VESSEL", x.at(0, 0, LEAK, 0, 0), 90 - n);
            Check.due("LEAK of " + n + ", leaked", x.at(0, 0, LEAK, 0, 6), n);
            Check.due("COLD of " + n, x.at(0, 0, COLD, 0, 3), (100 - n) / 10);
        }
    }

    private static void faultTicks() {
        Check.by("a TICK c (0 to 95) from which on they are");
        int[] first = {0, 1, 2, 47, 94, 95};
        for (int c : first) {
            DroppingBalls x = Check.with(STEADY);
            for (int kind = 0; kind <= 4; kind++) {
                x.faulty(kind, 0, kind == LEAK ? 1 : kind == WEAR ? 10 : 20, c);
            }
            int[] ahead = {10 * c, 10 * c, 10 * c, 10 * c, 10 * c};
            int[] on = {10, 0, 20, 10, 8};
            for (int kind = 0; kind <= 4; kind++) {
                Check.due("KIND " + kind + " ahead of " + c, c == 0 ? 0 : x.at(0, 0, kind, c - 1, 3), ahead[kind]);
                Check.due("KIND " + kind + " on " + c, x.at(0, 0, kind, c, 3), ahead[kind] + on[kind]);
            }
            Check.due("LEAK ahead of " + c, c == 0 ? 0 : x.at(0, 0, LEAK, c - 1, 6), 0);
            Check.due("LEAK on " + c, x.at(0, 0, LEAK, c, 6), 1);
            Check.due("LEAK from " + c + " to the end", atEnd(x, LEAK, 6), 96 - c);
            Check.due("CLOG from " + c + " to the end", atEnd(x, CLOG, 3), 10 * c);
            Check.due("COLD from " + c + " to the end", atEnd(x, COLD, 3), 10 * c + 8 * (96 - c));
        }
    }

    private static void clogs() {
        Check.by("HOLE of VESSEL v is n less (0 at least)");
        for (int hole = 1; hole <= 20; hole++) {
            DroppingBalls x = Check.with("30x10h" + hole + "=99x99;s60;m99");
            for (int n = hole - 1; n <= hole + 1; n++) {
                if (n >= 1 && n <= 20) {
                    int clog = x.faulty(CLOG, 0, n, 0);
                    Check.due("a HOLE of " + hole + ", " + n + " less", atEnd(x, clog, 3), 96 * Math.max(0, hole - n));
                    Check.due("a HOLE of " + hole + ", " + n + " less: VESSEL", atEnd(x, clog, 0), 300 - Math.max(0, hole - n));
                }
            }
        }
        DroppingBalls widest = Check.with("30x60h40=99x99;s0;m99");
        Check.due("the greatest HOLE, 20 more", widest.at(0, 0, widest.faulty(WEAR, 0, 20, 0), 0, 3), 360);
        Check.due("the greatest HOLE, 20 less", widest.at(0, 0, widest.faulty(CLOG, 0, 20, 0), 0, 3), 120);
    }

    private static void leaks() {
        Check.by("behind 2, n drops (all that there are at most) are gone from VESSEL v");
        for (int n = 1; n <= 20; n++) {
            DroppingBalls x = Check.with("1x10h1=10x99;s0;m1");
            int leak = x.faulty(LEAK, 0, n, 0);
            Check.due("leaked, " + n, x.at(0, 0, leak, 0, 6), Math.min(9, n));
            Check.due("left, " + n, x.at(0, 0, leak, 0, 0), Math.max(0, 9 - n));
            Check.due("dripped, " + n, x.at(0, 0, leak, 0, 3), 1);
            Check.due("all at last, " + n, atEnd(x, leak, 6), 9);
            Check.due("nothing left at last, " + n, atEnd(x, leak, 0), 0);
        }
        DroppingBalls empty = Check.with("1x10h40=10x99;s0;m1");
        Check.due("nothing is there behind 2", atEnd(empty, empty.faulty(LEAK, 0, 1, 0), 6), 0);
        Check.due("nothing from the CYLINDER", atEnd(empty, 0, 3), 10);
        Check.due("the BALL drops at the end of 2", empty.drops(0, 0, 0, 0), 0);
        DroppingBalls fed = Check.with("1x10h40=10x99;s20;m1");
        Check.due("what comes drips ahead of the LEAK", atEnd(fed, fed.faulty(LEAK, 0, 20, 0), 6), 0);
    }

    private static void colds() {
        Check.by("COLD: WARMTH is n less, whatever v is");
        DroppingBalls x = Check.with("30x60h40=99x99;s0;m99");
        x.season(0, 0, 50);
        x.season(1, 0, 150);
        for (int v = 0; v < 3; v++) {
            int most = x.faulty(COLD, v, 20, 0);
            int least = x.faulty(COLD, v, 1, 0);
            Check.due("20 less than the least, VESSEL " + v, x.at(0, 0, most, 0, 3), 2400 * 30 / 1000);
            Check.due("1 less than the least, VESSEL " + v, x.at(0, 0, least, 0, 3), 2400 * 49 / 1000);
            Check.due("20 less than the greatest, VESSEL " + v, x.at(0, 1, most, 0, 3), 2400 * 130 / 1000);
        }
        Check.due("the SEASON is as it was", x.season(0, 0, 100), 50);
        DroppingBalls many = Check.with("30x10h10>30x10h20>30x10h30=99x99;s0;m99");
        int cold = many.faulty(COLD, 1, 10, 0);
        int[] want = {300 - 9, 300 - 18, 300 - 27, 27};
        for (int what = 0; what < 4; what++) {
            Check.due("of all VESSELS: " + what, many.at(0, 0, cold, 0, what), want[what]);
        }
    }

    private static void vesselsOfFaults() {
        Check.by("(CLOG, WEAR, LEAK of a VESSEL that a CLOCK has not: nothing.)");
        String[] texts = {"30x10h10=99x99;s0;m99", "30x10h10>30x10h10=99x99;s0;m99", "30x10h10>30x10h10>30x10h10=99x99;s0;m99"};
        int[] left = {290, 300, 285, 287};
        for (int many = 1; many <= 3; many++) {
            for (int v = 0; v < 3; v++) {
                DroppingBalls x = Check.with(texts[many - 1]);
                for (int kind = 0; kind <= 3; kind++) {
                    x.faulty(kind, v, kind == CLOG ? 10 : kind == WEAR ? 5 : 3, 0);
                    boolean does = v < many && kind > 0;
                    for (int other = 0; other < 3; other++) {
                        int want = other >= many ? NONE : does && other == v ? left[kind] : 290;
                        Check.due("KIND " + kind + " of " + v + ", drops in " + other + " of " + many,
                                x.at(0, 0, kind, 0, other), want);
                    }
                    Check.due("KIND " + kind + " of " + v + " of " + many + ": leaked", x.at(0, 0, kind, 0, 6),
                            does && kind == LEAK ? 3 : 0);
                }
            }
        }
    }
}
