/** What all tests share: calls whose answers are due, and texts brought to THE PAGE. */
final class Check {
    private static int wrong = 0;
    private static int done = 0;
    private static String words = "";

    private Check() {
    }

    /** The words of the document by which the answers that follow are due: told with each that is not. */
    static void by(String... itsWords) {
        words = "\"" + String.join("\", \"", itsWords) + "\": ";
    }

    static void due(String call, long got, long want) {
        done++;
        if (got != want) {
            wrong++;
            System.out.println(words + call + " answered " + got + ", due is " + want);
        }
    }

    static void holds(String what, boolean is) {
        due(what, is ? 1 : 0, 1);
    }

    /** Brings a text to THE PAGE, eight letters a call; the answer of the last call. */
    static int type(DroppingBalls x, String text) {
        int answer = x.letters(0);
        for (int start = 0; start < text.length(); start += 8) {
            answer = x.letters(packed(text.substring(start, Math.min(text.length(), start + 8))));
        }
        return answer;
    }

    /** Up to eight letters as letters() takes them. */
    static long packed(String text) {
        long w = 0;
        for (int i = text.length() - 1; i >= 0; i--) {
            w = w << 8 | text.charAt(i);
        }
        return w;
    }

    static int clock(DroppingBalls x, String text) {
        type(x, text);
        return x.clock();
    }

    /** A new object with one CLOCK. */
    static DroppingBalls with(String text) {
        DroppingBalls x = new DroppingBalls();
        due("clock() of " + text, clock(x, text), 0);
        return x;
    }

    /** A new object with a CLOCK by which the BALL of MARK m drops on TICK m - 1. */
    static DroppingBalls withMarks(String marks) {
        return with("10x10h10=10x99;s10;m" + marks);
    }

    /** So many MARKS, from 1 on in steps. */
    static String marks(int many, int step) {
        StringBuilder marks = new StringBuilder();
        for (int i = 0; i < many; i++) {
            marks.append(i > 0 ? "," : "").append(1 + i * step);
        }
        return marks.toString();
    }

    /** Where fault() is in a text alone on THE PAGE. */
    static int faultIn(String text) {
        DroppingBalls x = new DroppingBalls();
        type(x, text);
        return x.fault();
    }

    static void end() {
        System.out.println(wrong == 0 ? done + " answers are as due" : wrong + " of " + done + " are not as due");
        if (wrong != 0) {
            System.exit(1);
        }
    }
}
