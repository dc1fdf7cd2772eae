/** Bounds of THE PAGE and of CLOCKS as texts (promises 1 to 6), sentence by sentence. */
public final class TextEdgesTest {
    private static final int NONE = DroppingBalls.NONE;
    private static final int UNKNOWN = DroppingBalls.UNKNOWN;
    private static final int OUTSIDE = DroppingBalls.OUTSIDE;
    private static final int STATE = DroppingBalls.STATE;
    private static final int FULL = DroppingBalls.FULL;
    private static final int MOST_LETTERS = 80;
    private static final int[] VESSEL_MOST = {30, 60, 40};
    private static final String PLAIN = "1x1h1=1x1;s0;m1";
    private static final String LONGEST =
            "30x60h40>30x60h40>30x60h40=99x99;s60;m88,89,90,91,92,93,94,95,96,97,98,99";

    private TextEdgesTest() {
    }

    public static void main(String[] args) {
        aNewObject();
        codesOfLetters();
        nothingBehindANought();
        lowestByteFirst();
        eightyLetters();
        blankPages();
        fourClocks();
        oneToThreeVessels();
        eachNumber();
        noNoughtAhead();
        numbersLeftOut();
        oneToTwelveMarks();
        eachMarkGreater();
        lettersThatNoClockHas();
        lettersBehindAClock();
        textsThatAreNone();
        stateAheadOfFull();
        whatIsTold();
        Check.end();
    }

    private static void aNewObject() {
        Check.by("No CLOCKS, no WORKS");
        DroppingBalls x = new DroppingBalls();
        Check.due("told(0, 0)", x.told(0, 0), UNKNOWN);
        Check.due("workAs(0, 0)", x.workAs(0, 0), UNKNOWN);
        Check.due("head(0)", x.head(0), UNKNOWN);
        Check.due("the first CLOCK", Check.clock(x, PLAIN), 0);
        Check.due("the first WORK", x.work(0, 0, NONE), 0);
    }

    // ---- THE PAGE

    private static void codesOfLetters() {
        Check.by("OUTSIDE: a byte above 126");
        for (int place = 0; place < 8; place++) {
            long ahead = Check.packed("1234567".substring(0, place));
            for (int code = 0; code < 256; code++) {
                DroppingBalls x = new DroppingBalls();
                x.letters('1');
                int more = code == 0 ? place : place + 1;
                Check.due("byte " + place + " of " + code, x.letters(ahead | (long) code << 8 * place),
                        code > 126 ? OUTSIDE : 1 + more);
                Check.due("the page behind it", x.count(3), code > 126 ? 1 : 1 + more);
            }
        }
    }

    private static void nothingBehindANought() {
        Check.by("or one behind a 0 that is not 0");
        DroppingBalls x = new DroppingBalls();
        for (int nought = 0; nought < 7; nought++) {
            long ahead = Check.packed("1234567".substring(0, nought));
            Check.due("a 0 in byte " + nought, x.letters(ahead), nought);
            for (int place = nought + 1; place < 8; place++) {
                Check.due("a 0 in byte " + nought + ", 1 in byte " + place, x.letters(ahead | 1L << 8 * place), OUTSIDE);
                Check.due("a 0 in byte " + nought + ", 126 in byte " + place, x.letters(ahead | 126L << 8 * place), OUTSIDE);
            }
            Check.due("blank", x.blank(), nought);
        }
    }

    private static void lowestByteFirst() {
        Check.by("told by their codes in the bytes of w, the lowest byte first");
        DroppingBalls x = new DroppingBalls();
        Check.due("letters", x.letters(0x003d_3168_3178_31L), 6);
        Check.due("fault", x.fault(), 6);
        Check.due("letters behind THE PAGE", x.letters(0x6d3b_3073_3b31_7831L), 14);
        Check.due("clock without a MARK", x.clock(), STATE);
        Check.due("one letter more", x.letters(0x31), 15);
        Check.due("clock", x.clock(), 0);
        Check.due("letters the other way round", x.letters(0x3178_3168_313dL), 6);
        Check.due("fault", x.fault(), 0);
    }

    private static void eightyLetters() {
        Check.by("FULL: above 80");
        for (int more = 0; more <= 8; more++) {
            for (int had = MOST_LETTERS - 9; had <= MOST_LETTERS; had++) {
                DroppingBalls x = new DroppingBalls();
                Check.type(x, "a".repeat(had));
                boolean fits = had + more <= MOST_LETTERS;
                String call = more + " letters behind " + had;
                Check.due(call, x.letters(Check.packed("b".repeat(more))), fits ? had + more : FULL);
                Check.due(call + ": the page", x.count(3), fits ? had + more : had);
                Check.due(call + ": blank", x.blank(), fits ? had + more : had);
            }
        }
        DroppingBalls x = new DroppingBalls();
        Check.type(x, "a".repeat(MOST_LETTERS));
        Check.due("full, and a byte of 127", x.letters(127), OUTSIDE);
        Check.due("full, and a byte behind a 0", x.letters(0x0100), OUTSIDE);
        Check.due("full, and no letter", x.letters(0), MOST_LETTERS);
        Check.due("none of the refused came", x.count(3), MOST_LETTERS);
    }

    private static void blankPages() {
        Check.by("THE PAGE is empty: how many letters it had");
        DroppingBalls x = new DroppingBalls();
        for (int had = 0; had <= MOST_LETTERS; had++) {
            Check.type(x, "1".repeat(had));
            Check.due("blank of " + had, x.blank(), had);
            Check.due("blank of none", x.blank(), 0);
            x = had % 20 == 0 ? new DroppingBalls() : x;
        }
        Check.type(x, "1".repeat(MOST_LETTERS));
        x.blank();
        Check.due("letters behind a full page's blank", x.letters(Check.packed(PLAIN.substring(0, 8))), 8);
        Check.due("letters", x.letters(Check.packed(PLAIN.substring(8))), 15);
        Check.due("clock", x.clock(), 0);
    }

    // ---- CLOCKS

    private static void fourClocks() {
        Check.by("CLOCKS (4 at most, numbered)");
        DroppingBalls x = new DroppingBalls();
        for (int number = 0; number < 4; number++) {
            Check.due("told ahead of clock " + number, x.told(number, 0), UNKNOWN);
            Check.due("clock", Check.clock(x, "1x1h" + (number + 1) + "=1x1;s0;m1"), number);
            Check.due("count", x.count(0), number + 1);
            Check.due("the page", x.count(3), 0);
        }
        Check.due("a fifth clock", Check.clock(x, PLAIN), FULL);
        Check.due("the page stays", x.count(3), PLAIN.length());
        Check.due("its letters stay", x.fault(), PLAIN.length());
        Check.due("count of full ones", x.count(0), 4);
        for (int number = 0; number < 4; number++) {
            Check.due("HOLE of clock " + number, x.told(number, 12), number + 1);
        }
        Check.due("told of clock 4", x.told(4, 0), UNKNOWN);
        Check.due("told of clock -1", x.told(NONE, 0), UNKNOWN);
        x.blank();
        Check.due("with an empty page", x.clock(), STATE);
    }

    /** Sees to it that a text alone on THE PAGE is a CLOCK. */
    private static DroppingBalls accepted(String text) {
        DroppingBalls x = new DroppingBalls();
        Check.due("letters of " + text, Check.type(x, text), text.length());
        Check.due("fault of " + text, x.fault(), text.length());
        Check.due("clock of " + text, x.clock(), 0);
        Check.due("the page behind " + text, x.count(3), 0);
        return x;
    }

    /** Sees to it that a text alone on THE PAGE is no CLOCK, and where it fails. */
    private static void refused(String text, int place) {
        DroppingBalls x = new DroppingBalls();
        Check.type(x, text);
        Check.due("fault of " + text, x.fault(), place);
        Check.due("clock of " + text, x.clock(), STATE);
        Check.due("the page behind " + text, x.count(3), text.length());
        Check.due("no CLOCK of " + text, x.count(0), 0);
    }

    private static void oneToThreeVessels() {
        Check.by("VESSELS (1 to 3) with \">\" between");
        refused("=1x1;s0;m1", 0);
        refused(">1x1h1=1x1;s0;m1", 0);
        StringBuilder vessels = new StringBuilder("1x1h1");
        for (int many = 1; many <= 3; many++) {
            Check.due(many + " vessels", accepted(vessels + "=1x1;s0;m1").told(0, 0), many);
            refused(vessels + ">=1x1;s0;m1", vessels.length() + (many < 3 ? 1 : 0));
            vessels.append(">1x1h1");
        }
        refused(vessels + "=1x1;s0;m1", 17);
    }

    /** What stands behind number i of a text of so many VESSELS. */
    private static String signBehind(int i, int vessels) {
        if (i < 3 * vessels) {
            return i % 3 == 0 ? "x" : i % 3 == 1 ? "h" : i / 3 < vessels - 1 ? ">" : "=";
        }
        return i == 3 * vessels ? "x" : i == 3 * vessels + 1 ? ";s" : i == 3 * vessels + 2 ? ";m" : "";
    }

    /** A text of so many VESSELS and one MARK whose numbers are all 1 but number i. */
    private static String text(int vessels, int i, String number) {
        StringBuilder text = new StringBuilder();
        for (int k = 0; k <= 3 * vessels + 3; k++) {
            text.append(k == i ? number : "1").append(signBehind(k, vessels));
        }
        return text.toString();
    }

    /** The place of number i in a text of text(). */
    private static int placeOf(int vessels, int i) {
        int place = 0;
        for (int k = 0; k < i; k++) {
            place += 1 + signBehind(k, vessels).length();
        }
        return place;
    }

    private static int leastOf(int vessels, int i) {
        return i == 3 * vessels + 2 ? 0 : 1;
    }

    private static int mostOf(int vessels, int i) {
        return i < 3 * vessels ? VESSEL_MOST[i % 3] : i == 3 * vessels + 2 ? 60 : 99;
    }

    /** By which what told() tells number i. */
    private static int whatOf(int vessels, int i) {
        return i < 3 * vessels ? 10 + i / 3 * 10 + i % 3 : i == 3 * vessels + 3 ? 40 : i - 3 * vessels + 1;
    }

    /** How many figures of a number some number from least to most begins with. */
    private static int figuresThatFit(String number, int least, int most) {
        for (int length = number.length(); length > 0; length--) {
            for (int v = least; v <= most; v++) {
                if (String.valueOf(v).startsWith(number.substring(0, length))) {
                    return length;
                }
            }
        }
        return 0;
    }

    private static void eachNumber() {
        Check.by("an AREA (1 to 30), \"x\", a HEIGHT (1 to 60), \"h\", a HOLE (1 to 40)", "AREA (1 to 99), \"x\", HEIGHT (1 to 99) of the CYLINDER",
                "SUPPLY (0 to 60)", "MARKS (1 to 12) with \",\" between, each greater than the one ahead (1 to 99)");
        for (int vessels = 1; vessels <= 3; vessels++) {
            for (int i = 0; i <= 3 * vessels + 3; i++) {
                for (int v = 0; v <= 120; v++) {
                    eachNumber(vessels, i, v);
                }
            }
        }
    }

    private static void eachNumber(int vessels, int i, int v) {
        int least = leastOf(vessels, i);
        int most = mostOf(vessels, i);
        String text = text(vessels, i, String.valueOf(v));
        if (v >= least && v <= most) {
            Check.due("told of " + text, accepted(text).told(0, whatOf(vessels, i)), v);
        } else {
            refused(text, placeOf(vessels, i) + figuresThatFit(String.valueOf(v), least, most));
        }
    }

    private static void noNoughtAhead() {
        Check.by("Numbers have no 0 ahead");
        for (int vessels = 1; vessels <= 3; vessels++) {
            for (int i = 0; i <= 3 * vessels + 3; i++) {
                int firstThatFails = placeOf(vessels, i) + 1 - leastOf(vessels, i);
                refused(text(vessels, i, "01"), firstThatFails);
                refused(text(vessels, i, "00"), firstThatFails);
                refused(text(vessels, i, "010"), firstThatFails);
            }
        }
        refused("1x1h1=1x1;s0;m1,02", 16);
    }

    private static void numbersLeftOut() {
        Check.by("an AREA (1 to 30), \"x\", a HEIGHT (1 to 60), \"h\", a HOLE (1 to 40); then \"=\", AREA", "then \";s\", SUPPLY", "then \";m\", MARKS");
        for (int vessels = 1; vessels <= 3; vessels++) {
            for (int i = 0; i <= 3 * vessels + 3; i++) {
                refused(text(vessels, i, ""), placeOf(vessels, i));
                refused(text(vessels, i, "-1"), placeOf(vessels, i));
                refused(text(vessels, i, " 1"), placeOf(vessels, i));
            }
        }
    }

    private static void oneToTwelveMarks() {
        Check.by("MARKS (1 to 12) with \",\" between");
        String ahead = "1x1h1=1x1;s0;m";
        refused(ahead, ahead.length());
        refused(ahead + ",1", ahead.length());
        for (int many = 1; many <= 12; many++) {
            DroppingBalls x = accepted(ahead + Check.marks(many, 1));
            Check.due(many + " marks", x.told(0, 4), many);
            Check.due("the last of " + many, x.told(0, 39 + many), many);
            Check.due("none behind " + many, x.told(0, 40 + many), many < 12 ? NONE : OUTSIDE);
            refused(ahead + Check.marks(many, 1) + ",", ahead.length() + Check.marks(many, 1).length() + (many < 12 ? 1 : 0));
        }
        refused(ahead + Check.marks(13, 1), ahead.length() + Check.marks(12, 1).length());
    }

    private static void eachMarkGreater() {
        Check.by("each greater than the one ahead (1 to 99)");
        for (int first = 1; first <= 99; first++) {
            for (int second = 0; second <= 101; second += second < first - 12 ? 5 : 1) {
                eachMarkGreater(first, second);
            }
        }
    }

    private static void eachMarkGreater(int first, int second) {
        String ahead = "1x1h1=1x1;s0;m" + first;
        String text = ahead + "," + second;
        if (second > first && second <= 99) {
            Check.due("told of " + text, accepted(text).told(0, 41), second);
        } else if (first == 99) {
            refused(text, ahead.length());
        } else {
            refused(text, ahead.length() + 1 + figuresThatFit(String.valueOf(second), first + 1, 99));
        }
    }

    private static void lettersThatNoClockHas() {
        Check.by("The place (from 0) of the first letter of THE PAGE that no CLOCK has there, behind those ahead of it");
        String[] texts = {"10x20h30>1x2h3=40x50;s6;m7,8,58,59", "9x6h4>1x1h1>30x60h40=99x1;s60;m99"};
        for (String text : texts) {
            for (int length = 0; length <= text.length(); length++) {
                for (int code = 1; code <= 126; code++) {
                    String page = text.substring(0, length) + (char) code;
                    DroppingBalls x = new DroppingBalls();
                    Model model = new Model();
                    Check.type(x, page);
                    type(model, page);
                    Check.due("fault of " + page, x.fault(), model.fault());
                    Check.due("clock of " + page, x.clock(), model.clock());
                }
            }
        }
    }

    private static void type(Model model, String text) {
        for (int start = 0; start < text.length(); start += 8) {
            model.letters(Check.packed(text.substring(start, Math.min(text.length(), start + 8))));
        }
    }

    private static void lettersBehindAClock() {
        Check.by("how many letters it has, if there is none");
        DroppingBalls x = new DroppingBalls();
        Check.due("fault of an empty page", x.fault(), 0);
        Check.type(x, LONGEST);
        Check.due("fault of the longest", x.fault(), LONGEST.length());
        Check.due("fault changes nothing", x.fault(), LONGEST.length());
        Check.type(x, "1234567");
        Check.due("fault of a full page", x.fault(), LONGEST.length());
        Check.due("clock of a full page", x.clock(), STATE);
        Check.due("the page stays full", x.count(3), MOST_LETTERS);
        DroppingBalls y = new DroppingBalls();
        Check.type(y, "1x1h1=1x1;s0;m57,5");
        Check.due("fault of a MARK that may go on", y.fault(), 18);
        Check.due("clock of a MARK that may go on", y.clock(), STATE);
        y.letters('7');
        Check.due("fault of a MARK that did not", y.fault(), 18);
        Check.due("clock of a MARK that did not", y.clock(), STATE);
    }

    private static void textsThatAreNone() {
        Check.by("STATE: it is none");
        refused("", 0);
        for (int length = 1; length < PLAIN.length(); length++) {
            refused(PLAIN.substring(0, length), length);
            refused(PLAIN.substring(length), firstThatFails(PLAIN.substring(length)));
        }
        refused(PLAIN + ";", PLAIN.length());
        refused(PLAIN + " ", PLAIN.length());
        refused(" " + PLAIN, 0);
        refused(PLAIN + PLAIN, PLAIN.length() + 1);
    }

    /** Of an end of the plain text: a 1 fits, and so does "x1" behind it, but no more. */
    private static int firstThatFails(String text) {
        return text.startsWith("1x1") ? 3 : text.startsWith("1") ? 1 : 0;
    }

    private static void stateAheadOfFull() {
        Check.by("STATE: it is none; FULL");
        DroppingBalls x = new DroppingBalls();
        for (int i = 0; i < 4; i++) {
            Check.clock(x, PLAIN);
        }
        Check.due("an empty page, full", x.clock(), STATE);
        Check.type(x, PLAIN.substring(0, 14));
        Check.due("no MARK, full", x.clock(), STATE);
        x.letters('1');
        Check.due("a CLOCK, full", x.clock(), FULL);
        Check.due("again", x.clock(), FULL);
        x.letters(';');
        Check.due("too much, full", x.clock(), STATE);
        Check.due("blank", x.blank(), 16);
    }

    // ---- what is told of them

    private static void whatIsTold() {
        Check.by("OUTSIDE: what (10 to 32 with a last figure 0 to 2, 40 to 51 else)");
        toldOf("7x8h9=1x2;s3;m4", new int[] {1, 1, 2, 3, 1}, new int[] {7, 8, 9}, new int[] {4});
        toldOf("7x8h9>10x11h12=99x98;s0;m4,99", new int[] {2, 99, 98, 0, 2}, new int[] {7, 8, 9, 10, 11, 12}, new int[] {4, 99});
        toldOf("30x60h40>1x1h1>2x3h4=5x6;s60;m1,2,3,4,5,6,7,8,9,10,11,12", new int[] {3, 5, 6, 60, 12},
                new int[] {30, 60, 40, 1, 1, 1, 2, 3, 4}, new int[] {1, 2, 3, 4, 5, 6, 7, 8, 9, 10, 11, 12});
    }

    private static void toldOf(String text, int[] five, int[] vessels, int[] marks) {
        DroppingBalls x = Check.with(text);
        for (int what = -20; what <= 70; what++) {
            int want = OUTSIDE;
            if (what >= 0 && what <= 4) {
                want = five[what];
            } else if (what >= 10 && what <= 32 && what % 10 <= 2) {
                int i = 3 * (what / 10 - 1) + what % 10;
                want = i < vessels.length ? vessels[i] : NONE;
            } else if (what >= 40 && what <= 51) {
                want = what - 40 < marks.length ? marks[what - 40] : NONE;
            }
            Check.due("told " + what + " of " + text, x.told(0, what), want);
            Check.due("told " + what + " of no CLOCK", x.told(1, what), UNKNOWN);
        }
        for (int what : new int[] {100, 110, 140, Integer.MAX_VALUE, Integer.MIN_VALUE}) {
            Check.due("told " + what, x.told(0, what), OUTSIDE);
        }
    }
}
