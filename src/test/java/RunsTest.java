/** Promises 13 to 17, and what FAULTS do in a RUN. */
public final class RunsTest {
    /** Ten drops come and go each TICK: behind TICK t LEVEL of the CYLINDER is t + 1. */
    private static final String STEADY = "10x10h10=10x50;s10;m8,16,24,32,40,48";
    private static final int NONE = DroppingBalls.NONE;
    private static final int UNKNOWN = DroppingBalls.UNKNOWN;
    private static final int OUTSIDE = DroppingBalls.OUTSIDE;

    private RunsTest() {
    }

    public static void main(String[] args) {
        promise13();
        clogs();
        wear();
        leaks();
        colds();
        faultsOfOtherVessels();
        promise14();
        promise15();
        siphon();
        promise16();
        promise17();
        Check.end();
    }

    private static void promise13() {
        Check.by("The TICK on which a BALL drops; NONE: it does not. UNKNOWN: ball, too.");
        DroppingBalls x = Check.with(STEADY);
        for (int ball = 0; ball < 6; ball++) {
            Check.due("drops: ball " + ball, x.drops(0, 0, NONE, ball), 8 * ball + 7);
        }
        Check.due("drops: ball 6", x.drops(0, 0, NONE, 6), UNKNOWN);
        Check.due("drops: ball -1", x.drops(0, 0, NONE, -1), UNKNOWN);
        Check.due("drops: clock 1", x.drops(1, 0, NONE, 0), UNKNOWN);
        Check.due("drops: clock -1", x.drops(-1, 0, NONE, 0), UNKNOWN);
        Check.due("drops: season 4", x.drops(0, 4, NONE, 0), UNKNOWN);
        Check.due("drops: season -1", x.drops(0, -1, NONE, 0), UNKNOWN);
        Check.due("drops: fault 0", x.drops(0, 0, 0, 0), UNKNOWN);
        Check.due("drops: fault -2", x.drops(0, 0, -2, 0), UNKNOWN);
        x.season(1, 0, 50);
        Check.due("drops: half as warm", x.drops(0, 1, NONE, 0), 15);
        Check.due("drops: on the last tick", x.drops(0, 1, NONE, 5), 95);
        x.season(1, 0, 59);
        Check.due("drops: rounded down", x.drops(0, 1, NONE, 0), 15);
        x.season(1, 0, 60);
        Check.due("drops: warmer", x.drops(0, 1, NONE, 0), 13);

        DroppingBalls y = Check.with("1x60h40=10x9;s0;m1,5,7");
        Check.due("drops: all that it has at most", y.drops(0, 0, NONE, 1), 0);
        Check.due("drops: never", y.drops(0, 0, NONE, 2), NONE);
    }

    private static void clogs() {
        Check.by("a CLOG: HOLE of VESSEL v is n less (0 at least);");
        DroppingBalls x = Check.with(STEADY);
        int half = x.faulty(1, 0, 5, 0);
        Check.due("clog: half the hole", x.drops(0, 0, half, 0), 15);
        Check.due("clog: on the last tick", x.drops(0, 0, half, 5), 95);
        int more = x.faulty(1, 0, 6, 0);
        Check.due("clog: ball 3", x.drops(0, 0, more, 3), 79);
        Check.due("clog: ball 4", x.drops(0, 0, more, 4), NONE);
        int whole = x.faulty(1, 0, 20, 8);
        Check.due("clog: no hole below 0", x.at(0, 0, whole, 95, 3), 80);
        Check.due("clog: ahead of it", x.drops(0, 0, whole, 0), 7);
        Check.due("clog: behind it", x.drops(0, 0, whole, 1), NONE);
        int earlier = x.faulty(1, 0, 20, 7);
        Check.due("clog: from its own tick on", x.drops(0, 0, earlier, 0), NONE);
    }

    private static void wear() {
        Check.by("a CLOG: HOLE of VESSEL v is n less (0 at least); a WEAR: n more;");
        DroppingBalls x = Check.with(STEADY);
        int wear = x.faulty(2, 0, 10, 0);
        Check.due("wear: ball 0", x.drops(0, 0, wear, 0), 4);
        Check.due("wear: ball 1", x.drops(0, 0, wear, 1), 11);
        Check.due("wear: ball 2", x.drops(0, 0, wear, 2), 19);
        Check.due("wear: greatest", x.even(0, 0, wear, 1), 20);
        int later = x.faulty(2, 0, 10, 4);
        Check.due("wear: cylinder ahead of it", x.at(0, 0, later, 3, 3), 40);
        Check.due("wear: cylinder with it", x.at(0, 0, later, 4, 3), 60);
    }

    private static void leaks() {
        Check.by("a LEAK: behind 2, n drops (all that there are at most) are gone from VESSEL v;");
        DroppingBalls x = Check.with(STEADY);
        int leak = x.faulty(3, 0, 10, 0);
        Check.due("leak: first tick", x.at(0, 0, leak, 0, 6), 10);
        Check.due("leak: the vessel behind it", x.at(0, 0, leak, 0, 0), 80);
        Check.due("leak: behind what goes out", x.at(0, 0, leak, 0, 3), 10);
        Check.due("leak: second tick", x.at(0, 0, leak, 1, 0), 71);
        Check.due("leak: empty", x.at(0, 0, leak, 25, 0), 0);
        Check.due("leak: until then", x.at(0, 0, leak, 25, 6), 260);
        Check.due("leak: all that there are at most", x.at(0, 0, leak, 26, 6), 269);
        Check.due("leak: the last tick", x.at(0, 0, leak, 95, 6), 269 + 69 * 9);
        int later = x.faulty(3, 0, 10, 3);
        Check.due("leak: ahead of it", x.at(0, 0, later, 2, 6), 0);
        Check.due("leak: from its tick on", x.at(0, 0, later, 3, 6), 10);
        Check.due("leak: none without", x.at(0, 0, NONE, 95, 6), 0);
    }

    private static void colds() {
        Check.by("COLD: WARMTH is n less, whatever v is.");
        DroppingBalls x = Check.with(STEADY);
        int cold = x.faulty(4, 2, 20, 0);
        Check.due("cold: whatever the vessel is", x.drops(0, 0, cold, 0), 9);
        Check.due("cold: last ball", x.drops(0, 0, cold, 5), 59);
        int later = x.faulty(4, 0, 20, 10);
        Check.due("cold: ahead of it", x.at(0, 0, later, 9, 3), 100);
        Check.due("cold: from its tick on", x.at(0, 0, later, 10, 3), 108);
        Check.due("cold: nothing leaks", x.at(0, 0, later, 95, 6), 0);
    }

    private static void faultsOfOtherVessels() {
        Check.by("(CLOG, WEAR, LEAK of a VESSEL that a CLOCK has not: nothing.)");
        DroppingBalls x = Check.with(STEADY);
        Check.clock(x, "10x10h10>10x10h10=10x50;s0;m1");
        for (int kind = 0; kind <= 3; kind++) {
            int other = x.faulty(kind, 1, 20, 0);
            Check.due("a fault of no vessel, kind " + kind, x.drops(0, 0, other, 5), 47);
            Check.due("the same, leaked", x.at(0, 0, other, 95, 6), 0);
        }
        int plain = x.faulty(0, 0, 20, 0);
        Check.due("a plain fault does nothing", x.at(0, 0, plain, 95, 3), 460);
        Check.due("a clog of the second vessel", x.at(1, 0, 1, 5, 3), 0);
        Check.due("the first one drips on", x.at(1, 0, 1, 0, 0), 90);
        Check.due("a leak of the second vessel", x.at(1, 0, 3, 0, 1), 70);
        Check.due("not of the first one", x.at(1, 0, 3, 0, 0), 90);
    }

    private static void promise14() {
        Check.by("ERROR (it may be below 0). -1001: UNKNOWN.");
        DroppingBalls x = Check.with(STEADY);
        Check.due("error: ball 0", x.error(0, 0, NONE, 0), -1);
        Check.due("error: ball 5", x.error(0, 0, NONE, 5), -1);
        x.season(2, 1, 25);
        Check.due("error: true tick 4", x.error(0, 2, NONE, 0), 3);
        Check.due("error: true tick 20", x.error(0, 2, NONE, 4), 19);
        int clog = x.faulty(1, 0, 20, 0);
        Check.due("error: never, ball 0", x.error(0, 0, clog, 0), 88);
        Check.due("error: never, ball 5", x.error(0, 0, clog, 5), 48);
        Check.due("error: ball 6", x.error(0, 0, NONE, 6), -1001);
        Check.due("error: ball -1", x.error(0, 0, NONE, -1), -1001);
        Check.due("error: clock", x.error(1, 0, NONE, 0), -1001);
        Check.due("error: season", x.error(0, 4, NONE, 0), -1001);
        Check.due("error: fault", x.error(0, 0, 1, 0), -1001);
    }

    private static void promise15() {
        Check.by("Of a RUN behind a TICK (0 to 95): what = 0 to 2 drops in a VESSEL (NONE: no such VESSEL), 3 drops in the CYLINDER,",
                "4 how many BALLS have dropped, 5 drops run over so far, 6 leaked so far, 7 how often the SIPHON emptied. OUTSIDE: tick, what.");
        DroppingBalls x = Check.with("10x10h10>10x10h10=10x50;s0;m1");
        int[] first = {90, 90, NONE, 10, 1, 10, 0, 0};
        int[] second = {81, 90, NONE, 19, 1, 10, 0, 0};
        int[] third = {73, 89, NONE, 28, 1, 10, 0, 0};
        for (int what = 0; what < 8; what++) {
            Check.due("at 0: " + what, x.at(0, 0, NONE, 0, what), first[what]);
            Check.due("at 1: " + what, x.at(0, 0, NONE, 1, what), second[what]);
            Check.due("at 2: " + what, x.at(0, 0, NONE, 2, what), third[what]);
        }
        Check.due("at: tick -1", x.at(0, 0, NONE, -1, 0), OUTSIDE);
        Check.due("at: tick 96", x.at(0, 0, NONE, 96, 0), OUTSIDE);
        Check.due("at: tick of all", x.at(0, 0, NONE, Integer.MAX_VALUE, 0), OUTSIDE);
        Check.due("at: what -1", x.at(0, 0, NONE, 0, -1), OUTSIDE);
        Check.due("at: what 8", x.at(0, 0, NONE, 0, 8), OUTSIDE);
        Check.due("at: unknown first", x.at(0, 0, 0, 96, 8), UNKNOWN);
        Check.due("at: season", x.at(0, 4, NONE, 0, 0), UNKNOWN);
        Check.due("at: clock", x.at(2, 0, NONE, 0, 0), UNKNOWN);

        DroppingBalls y = Check.with(STEADY);
        Check.due("at: what comes to a full vessel runs over at once", y.at(0, 0, NONE, 0, 5), 10);
        Check.due("at: no more later", y.at(0, 0, NONE, 95, 5), 10);
        Check.due("at: balls ahead of the drop", y.at(0, 0, NONE, 6, 4), 0);
        Check.due("at: balls with the drop", y.at(0, 0, NONE, 7, 4), 1);
        Check.due("at: all balls", y.at(0, 0, NONE, 95, 4), 6);
    }

    private static void siphon() {
        Check.by("If LEVEL of the CYLINDER is HEIGHT or more, and all BALLS have dropped, the SIPHON empties it.");
        DroppingBalls x = Check.with(STEADY);
        Check.due("siphon: ahead", x.at(0, 0, NONE, 48, 3), 490);
        Check.due("siphon: empties", x.at(0, 0, NONE, 49, 3), 0);
        Check.due("siphon: how often ahead", x.at(0, 0, NONE, 48, 7), 0);
        Check.due("siphon: how often", x.at(0, 0, NONE, 95, 7), 1);
        Check.due("siphon: fills again", x.at(0, 0, NONE, 95, 3), 460);
        Check.due("siphon: the balls stay dropped", x.at(0, 0, NONE, 95, 4), 6);

        Check.clock(x, "10x10h10=10x10;s10;m8,16");
        Check.due("siphon: waits for the balls", x.at(1, 0, NONE, 14, 3), 150);
        Check.due("siphon: on the tick of the last one", x.at(1, 0, NONE, 15, 3), 0);
        Check.due("siphon: each time it is full", x.at(1, 0, NONE, 95, 7), 9);
        Check.due("siphon: a ball drops ahead of it", x.drops(1, 0, NONE, 1), 15);

        Check.clock(x, "10x10h10=10x10;s10;m8,99");
        Check.due("siphon: never with a ball left", x.at(2, 0, NONE, 95, 7), 0);
        Check.due("siphon: above its height", x.at(2, 0, NONE, 95, 3), 960);
    }

    private static void promise16() {
        Check.by("EVEN: what = 0 the least, 1 the greatest. OUTSIDE.");
        DroppingBalls x = Check.with(STEADY);
        Check.due("even: least", x.even(0, 0, NONE, 0), 10);
        Check.due("even: greatest", x.even(0, 0, NONE, 1), 10);
        int clog = x.faulty(1, 0, 20, 95);
        Check.due("even: least on the last tick", x.even(0, 0, clog, 0), 0);
        Check.due("even: greatest with it", x.even(0, 0, clog, 1), 10);
        int whole = x.faulty(1, 0, 20, 0);
        Check.due("even: nothing comes, though it did in another run", x.even(0, 0, whole, 1), 0);
        // From TICK 1 on 11 and 9 by turns, 11 on the last one.
        int byTurns = x.faulty(2, 0, 1, 1);
        Check.due("even: least, though more comes at last", x.even(0, 0, byTurns, 0), 9);
        Check.due("even: greatest by turns", x.even(0, 0, byTurns, 1), 11);
        // SUPPLY keeps the vessel full: 10 on TICK 0, 15 from then on.
        DroppingBalls y = Check.with("10x10h10=10x50;s60;m8");
        int wear = y.faulty(2, 0, 5, 1);
        Check.due("even: least on the first tick", y.even(0, 0, wear, 0), 10);
        Check.due("even: greatest behind it", y.even(0, 0, wear, 1), 15);
        Check.due("even: what -1", x.even(0, 0, NONE, -1), OUTSIDE);
        Check.due("even: what 2", x.even(0, 0, NONE, 2), OUTSIDE);
        Check.due("even: unknown first", x.even(0, 0, 3, 2), UNKNOWN);
        Check.due("even: clock", x.even(1, 0, NONE, 0), UNKNOWN);
    }

    private static void promise17() {
        Check.by("MEAN, in lowest terms: part 0 above, 1 below. OUTSIDE.");
        String[] marks = {"1,2,4", "1,2,3", "1,3", "1,2", "9,17,25,33,41,49", "1"};
        int[] above = {92, 31, 35, 71, 0, 48};
        int[] below = {3, 1, 1, 2, 1, 1};
        for (int i = 0; i < marks.length; i++) {
            DroppingBalls x = Check.with("10x10h10=10x50;s10;m" + marks[i]);
            Check.due("mean above: " + marks[i], x.mean(0, 0, NONE, 0), above[i]);
            Check.due("mean below: " + marks[i], x.mean(0, 0, NONE, 1), below[i]);
        }
        DroppingBalls y = Check.with("10x10h10=10x50;s10;m1,2,3,4");
        Check.due("mean: lowest terms, above", y.mean(0, 0, NONE, 0), 57);
        Check.due("mean: lowest terms, below", y.mean(0, 0, NONE, 1), 2);
        int clog = y.faulty(1, 0, 20, 0);
        Check.due("mean: with a fault, above", y.mean(0, 0, clog, 0), 66);
        Check.due("mean: with a fault, below", y.mean(0, 0, clog, 1), 1);
        Check.due("mean: part -1", y.mean(0, 0, NONE, -1), OUTSIDE);
        Check.due("mean: part 2", y.mean(0, 0, NONE, 2), OUTSIDE);
        Check.due("mean: unknown first", y.mean(0, 4, NONE, 2), UNKNOWN);
    }
}
