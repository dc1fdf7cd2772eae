/** Promises 1 to 7: a new object, THE PAGE, CLOCKS told as texts, SEASONS. */
public final class ClocksTest {
    private static final String LONGEST =
            "30x60h40>30x60h40>30x60h40=99x99;s60;m88,89,90,91,92,93,94,95,96,97,98,99";

    private ClocksTest() {
    }

    public static void main(String[] args) {
        promise1();
        promise2();
        promise3();
        promise4Signs();
        promise4LeftOut();
        promise4Numbers();
        promise4Marks();
        promise5();
        promise5Parts();
        promise6();
        promise7();
        Check.end();
    }

    private static void promise1() {
        Check.by("`DroppingBalls()`: No CLOCKS, no WORKS.");
        DroppingBalls x = new DroppingBalls();
        for (int what = 0; what <= 5; what++) {
            Check.due("new: count " + what, x.count(what), 0);
        }
        Check.due("new: told", x.told(0, 0), DroppingBalls.UNKNOWN);
        Check.due("new: as", x.as(0, 0), DroppingBalls.UNKNOWN);
        Check.due("new: workAs", x.workAs(0, 0), DroppingBalls.UNKNOWN);
        Check.due("new: head", x.head(DroppingBalls.NONE), DroppingBalls.NONE);
        Check.due("new: restore", x.restore(), DroppingBalls.STATE);
        Check.due("new: another object is its own", Check.with("1x1h1=1x1;s0;m1").count(0), 1);
        Check.due("new: still none", x.count(0), 0);
    }

    private static void promise2() {
        Check.by("Letters come behind THE PAGE, up to eight, told by their codes in the bytes of w, the lowest byte first, until a byte that is 0: how many THE PAGE has.",
                "OUTSIDE: a byte above 126, or one behind a 0 that is not 0; FULL: above 80.");
        DroppingBalls x = new DroppingBalls();
        Check.due("letters: none", x.letters(0), 0);
        Check.due("letters: one", x.letters('a'), 1);
        Check.due("letters: eight", x.letters(Check.packed("abcdefgh")), 9);
        Check.due("letters: 126", x.letters(126), 10);
        Check.due("letters: 1", x.letters(1), 11);
        Check.due("letters: 127", x.letters(127), DroppingBalls.OUTSIDE);
        Check.due("letters: 128", x.letters(128), DroppingBalls.OUTSIDE);
        Check.due("letters: 255 in the highest byte", x.letters(-1L << 56 | Check.packed("abcdefg")), DroppingBalls.OUTSIDE);
        Check.due("letters: all 255", x.letters(-1), DroppingBalls.OUTSIDE);
        Check.due("letters: behind a 0", x.letters('a' << 8), DroppingBalls.OUTSIDE);
        Check.due("letters: behind a 0 further on", x.letters(1L << 56 | 'a'), DroppingBalls.OUTSIDE);
        Check.due("letters: the refused changed nothing", x.count(3), 11);

        DroppingBalls y = new DroppingBalls();
        for (int i = 1; i <= 9; i++) {
            Check.due("letters: call " + i, y.letters(Check.packed("12345678")), 8 * i);
        }
        Check.due("letters: 81", y.letters(Check.packed("12345678") | 0), 80);
        Check.due("letters: full, none more", y.letters(0), 80);
        Check.due("letters: full", y.letters('1'), DroppingBalls.FULL);
        Check.due("letters: outside is told ahead of full", y.letters(127), DroppingBalls.OUTSIDE);
        Check.due("letters: still 80", y.count(3), 80);
        y.blank();
        Check.type(y, "1234567890123456789012345678901234567890123456789012345678901234567890123456");
        Check.due("letters: 76 and 5", y.letters(Check.packed("12345")), DroppingBalls.FULL);
        Check.due("letters: 76 and 4", y.letters(Check.packed("1234")), 80);
    }

    private static void promise3() {
        Check.by("THE PAGE is empty: how many letters it had.");
        DroppingBalls x = new DroppingBalls();
        Check.due("blank: empty", x.blank(), 0);
        x.letters(Check.packed("10x1"));
        Check.due("blank: four", x.blank(), 4);
        Check.due("blank: again", x.blank(), 0);
        Check.due("blank: nothing is left", Check.clock(x, "1x1h1=1x1;s0;m1"), 0);
    }

    private static void promise4Signs() {
        Check.by("The place (from 0) of the first letter of THE PAGE that no CLOCK has there, behind those ahead of it; how many letters it has, if there is none.");
        DroppingBalls x = new DroppingBalls();
        Check.due("fault: empty", x.fault(), 0);
        String text = "10x20h30>1x2h3=40x50;s6;m7,8";
        for (int length = 0; length <= text.length(); length++) {
            String ahead = text.substring(0, length);
            Check.due("fault: " + ahead, Check.faultIn(ahead), length);
            Check.due("fault: " + ahead + "?", Check.faultIn(ahead + "?" + text.substring(length)), length);
        }
        Check.due("fault: the longest", Check.faultIn(LONGEST), LONGEST.length());
        Check.due("fault: a fourth vessel", Check.faultIn("1x1h1>1x1h1>1x1h1>"), 17);
        Check.due("fault: a third vessel", Check.faultIn("1x1h1>1x1h1>"), 12);
        Check.due("fault: no vessel", Check.faultIn("=1x1"), 0);
        Check.due("fault: a blank ahead", Check.faultIn(" 1x1"), 0);
        Check.due("fault: a large X", Check.faultIn("1X1"), 1);
        Check.due("fault: no m", Check.faultIn("1x1h1=1x1;s0;1"), 13);
        Check.due("fault: nothing behind", Check.faultIn("1x1h1=1x1;s0;m1;"), 15);
        Check.due("fault: it stays on the page", Check.faultIn("1x"), 2);
    }

    /** A part that is left out is missed where it ought to begin. */
    private static void promise4LeftOut() {
        String[] text = {"1xh1=1x1;s0;m1", "1x=1x1;s0;m1", "1x1h=1x1;s0;m1", "1x1h>1x1h1=1x1;s0;m1", "1x1=1x1;s0;m1",
            "1h1=1x1;s0;m1", "1=1x1;s0;m1", "1x1h1;s0;m1", "1x1h1=;s0;m1", "1x1h1=1;s0;m1", "1x1h1=1x;s0;m1",
            "1x1h1=1x1;0;m1", "1x1h1=1x1s0;m1", "1x1h1=1x1;;m1", "1x1h1=1x1;m1", "1x1h1=1x1;s0m1", "1x1h1=1x1;s0;,", "1x1h1>=1x1;s0;m1"};
        int[] want = {2, 2, 4, 4, 3, 1, 1, 5, 6, 7, 8, 10, 9, 10, 10, 12, 13, 6};
        for (int i = 0; i < text.length; i++) {
            Check.due("fault: " + text[i], Check.faultIn(text[i]), want[i]);
        }
    }

    private static void promise4Numbers() {
        Check.by("Numbers have no 0 ahead.");
        Check.due("fault: area 0", Check.faultIn("0"), 0);
        Check.due("fault: area 30", Check.faultIn("30x"), 3);
        Check.due("fault: area 31", Check.faultIn("31"), 1);
        Check.due("fault: area 40", Check.faultIn("40"), 1);
        Check.due("fault: area of three figures", Check.faultIn("100"), 2);
        Check.due("fault: height 60", Check.faultIn("1x60h"), 5);
        Check.due("fault: height 61", Check.faultIn("1x61"), 3);
        Check.due("fault: height 0", Check.faultIn("1x0"), 2);
        Check.due("fault: hole 40", Check.faultIn("1x1h40="), 7);
        Check.due("fault: hole 41", Check.faultIn("1x1h41"), 5);
        Check.due("fault: hole 05", Check.faultIn("1x1h05"), 4);
        Check.due("fault: cylinder 99x99", Check.faultIn("1x1h1=99x99;"), 12);
        Check.due("fault: cylinder 100", Check.faultIn("1x1h1=100"), 8);
        Check.due("fault: cylinder 0", Check.faultIn("1x1h1=0"), 6);
        Check.due("fault: cylinder height 0", Check.faultIn("1x1h1=1x0"), 8);
        Check.due("fault: supply 0", Check.faultIn("1x1h1=1x1;s0;"), 13);
        Check.due("fault: supply 00", Check.faultIn("1x1h1=1x1;s00"), 12);
        Check.due("fault: supply 60", Check.faultIn("1x1h1=1x1;s60;"), 14);
        Check.due("fault: supply 61", Check.faultIn("1x1h1=1x1;s61"), 12);
        Check.due("fault: supply 7", Check.faultIn("1x1h1=1x1;s7;"), 13);
        Check.due("fault: no supply", Check.faultIn("1x1h1=1x1;s;"), 11);
    }

    private static void promise4Marks() {
        Check.by("MARKS (1 to 12) with \",\" between, each greater than the one ahead (1 to 99).");
        String ahead = "1x1h1=1x1;s0;m";
        int place = ahead.length();
        Check.due("fault: mark 0", Check.faultIn(ahead + "0"), place);
        Check.due("fault: mark 100", Check.faultIn(ahead + "100"), place + 2);
        Check.due("fault: mark 5 behind 58, as of 59", Check.faultIn(ahead + "58,5"), place + 4);
        Check.due("fault: mark 5 alone behind 58", Check.faultIn(ahead + "58,5,"), place + 4);
        Check.due("fault: mark 58 behind 58", Check.faultIn(ahead + "58,58"), place + 4);
        Check.due("fault: mark 59 behind 58", Check.faultIn(ahead + "58,59"), place + 5);
        Check.due("fault: mark 4 behind 58", Check.faultIn(ahead + "58,4"), place + 3);
        Check.due("fault: mark 5 behind 59", Check.faultIn(ahead + "59,5"), place + 3);
        Check.due("fault: mark 9 behind 8", Check.faultIn(ahead + "8,9,"), place + 4);
        Check.due("fault: mark 1 behind 1, as of 10", Check.faultIn(ahead + "1,1"), place + 3);
        Check.due("fault: mark 1 alone behind 1", Check.faultIn(ahead + "1,1,"), place + 3);
        Check.due("fault: nothing behind 99", Check.faultIn(ahead + "99,"), place + 2);
        Check.due("fault: a comma behind 98", Check.faultIn(ahead + "98,"), place + 3);
        Check.due("fault: a thirteenth mark", Check.faultIn(ahead + "1,2,3,4,5,6,7,8,9,10,11,12,"), place + 26);
        Check.due("fault: a twelfth mark", Check.faultIn(ahead + "1,2,3,4,5,6,7,8,9,10,11,"), place + 24);
        Check.due("fault: a comma twice", Check.faultIn(ahead + "1,,"), place + 2);
    }

    private static void promise5() {
        Check.by("THE PAGE is read as a CLOCK: its number; THE PAGE is empty then. STATE: it is none; FULL.");
        DroppingBalls x = new DroppingBalls();
        Check.due("clock: empty page", x.clock(), DroppingBalls.STATE);
        Check.type(x, "1x1h1=1x1;s0;m");
        Check.due("clock: no mark", x.clock(), DroppingBalls.STATE);
        Check.due("clock: the page stays", x.count(3), 14);
        Check.due("clock: goes on", Check.clock(x, "9"), 0);
        Check.due("clock: the page is empty", x.count(3), 0);
        Check.due("clock: mark not greater", Check.clock(x, "1x1h1=1x1;s0;m5,5"), DroppingBalls.STATE);
        x.blank();
        Check.due("clock: half a mark", Check.clock(x, "1x1h1=1x1;s0;m57,5"), DroppingBalls.STATE);
        Check.due("clock: the whole mark", Check.clock(x, "8"), 1);
        Check.due("clock: too much", Check.clock(x, "1x1h1=1x1;s0;m1;"), DroppingBalls.STATE);
        x.blank();
        Check.due("clock: longest", Check.clock(x, LONGEST), 2);
        Check.due("clock: again", Check.clock(x, LONGEST), 3);
        Check.due("clock: state is told ahead of full", x.clock(), DroppingBalls.STATE);
        Check.due("clock: full", Check.clock(x, "1x1h1=1x1;s0;m1"), DroppingBalls.FULL);
        Check.due("clock: the page stays when full", x.count(3), 15);
        Check.due("clock: four", x.count(0), 4);
    }

    /** Of all that a text begins with, what ends behind a MARK alone is a CLOCK. */
    private static void promise5Parts() {
        String text = "10x20h30>1x2h3=40x50;s6;m7,8";
        for (int length = 0; length <= text.length(); length++) {
            boolean whole = text.substring(0, length).endsWith("m7") || length == text.length();
            DroppingBalls x = new DroppingBalls();
            Check.due("clock: " + text.substring(0, length), Check.clock(x, text.substring(0, length)),
                    whole ? 0 : DroppingBalls.STATE);
            Check.due("clock: what is on the page then", x.count(3), whole ? 0 : length);
        }
    }

    private static void promise6() {
        Check.by("Of a CLOCK: what = 0 how many VESSELS, 1 AREA, 2 HEIGHT of the CYLINDER, 3 SUPPLY, 4 how many MARKS,",
                "10 times a VESSEL and 10, 11, 12 its AREA, HEIGHT, HOLE (NONE: no such VESSEL), 40 and i MARK i (NONE).",
                "UNKNOWN; OUTSIDE: what (10 to 32 with a last figure 0 to 2, 40 to 51 else).");
        DroppingBalls x = Check.with("10x20h30>1x2h3=40x50;s6;m7,8,99");
        int[] what = {0, 1, 2, 3, 4, 10, 11, 12, 20, 21, 22, 30, 31, 32, 40, 41, 42, 43, 51};
        int[] want = {2, 40, 50, 6, 3, 10, 20, 30, 1, 2, 3, -1, -1, -1, 7, 8, 99, -1, -1};
        for (int i = 0; i < what.length; i++) {
            Check.due("told " + what[i], x.told(0, what[i]), want[i]);
        }
        int[] outside = {-1, 5, 9, 13, 19, 23, 29, 33, 39, 52, Integer.MIN_VALUE, Integer.MAX_VALUE};
        for (int w : outside) {
            Check.due("told " + w, x.told(0, w), DroppingBalls.OUTSIDE);
        }
        Check.due("told of clock 1", x.told(1, 0), DroppingBalls.UNKNOWN);
        Check.due("told of clock -1, unknown first", x.told(-1, 99), DroppingBalls.UNKNOWN);
        Check.clock(x, LONGEST);
        Check.due("told of the second clock", x.told(1, 51), 99);
        Check.due("told of its third vessel", x.told(1, 32), 40);
        Check.due("the first is as it was", x.told(0, 12), 30);
    }

    private static void promise7() {
        Check.by("WARMTH (what = 0), DAYLIGHT (1) of a SEASON becomes v: what it was. UNKNOWN: season; OUTSIDE.");
        DroppingBalls x = new DroppingBalls();
        for (int s = 0; s < 4; s++) {
            Check.due("season: warmth at first", x.season(s, 0, 50 + s), 100);
            Check.due("season: daylight at first", x.season(s, 1, 72 - s), 48);
        }
        Check.due("season: warmth was", x.season(1, 0, 150), 51);
        Check.due("season: warmth 150 was", x.season(1, 0, 51), 150);
        Check.due("season: daylight was", x.season(3, 1, 24), 69);
        Check.due("season: -1", x.season(-1, 0, 100), DroppingBalls.UNKNOWN);
        Check.due("season: 4, unknown first", x.season(4, 7, 1000), DroppingBalls.UNKNOWN);
        Check.due("season: what 2", x.season(0, 2, 60), DroppingBalls.OUTSIDE);
        Check.due("season: what -1", x.season(0, -1, 60), DroppingBalls.OUTSIDE);
        Check.due("season: warmth 49", x.season(0, 0, 49), DroppingBalls.OUTSIDE);
        Check.due("season: warmth 151", x.season(0, 0, 151), DroppingBalls.OUTSIDE);
        Check.due("season: daylight 23", x.season(0, 1, 23), DroppingBalls.OUTSIDE);
        Check.due("season: daylight 73", x.season(0, 1, 73), DroppingBalls.OUTSIDE);
        Check.due("season: nothing changed", x.season(0, 0, 100), 50);
        Check.due("season: nor daylight", x.season(0, 1, 48), 72);
    }
}
