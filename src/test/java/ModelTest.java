import java.util.Random;

/** Runs of calls on an object and on a Model: each answer is to be the same. */
public final class ModelTest {
    private static final int RUNS = 60;
    /** A run ends behind so many calls: the last step has fewer than thirty, of 512 that are promised. */
    private static final int COMPARED = 480;
    private static final int[] WILD = {-1002, -101, -2, -1, 0, 1, 2, 3, 4, 5, 7, 8, 12, 20, 29, 30, 40, 52, 72, 95, 96,
        97, 150, 151, 1 << 30, Integer.MAX_VALUE, Integer.MIN_VALUE};

    private final Random random;
    private final DroppingBalls x = new DroppingBalls();
    private final Model model = new Model();
    private final int run;
    /** How many calls in a hundred have an argument that is likely to be refused. */
    private final int wildness;
    private int compared;

    private ModelTest(int run) {
        this.run = run;
        random = new Random(run);
        wildness = run % 4 == 0 ? 30 : 4;
    }

    public static void main(String[] args) {
        int runs = args.length > 0 ? Integer.parseInt(args[0]) : RUNS;
        int first = args.length > 1 ? Integer.parseInt(args[1]) : 0;
        for (int run = first; run < first + runs; run++) {
            ModelTest test = new ModelTest(run);
            test.opening();
            while (test.compared < COMPARED) {
                test.step();
            }
        }
        Check.end();
    }

    private int upTo(int most) {
        return random.nextInt(most + 1);
    }

    /** A number of those that fit, one in five the least or the greatest of them, and now and then a wild one. */
    private int from(int least, int most) {
        if (random.nextInt(100) < wildness) {
            return WILD[upTo(WILD.length - 1)];
        }
        return upTo(4) > 0 ? least + upTo(most - least) : upTo(1) == 0 ? least : most;
    }

    private void opening() {
        for (int i = upTo(3); i >= 0; i--) {
            type(clockText());
            same("clock()", x.clock(), model.clock());
        }
        for (int i = upTo(6); i > 0; i--) {
            faulty();
        }
        for (int i = upTo(10); i > 0; i--) {
            work();
        }
        head();
    }

    private void same(String call, long got, long want) {
        compared++;
        Check.due("run " + run + ": " + call, got, want);
    }

    private String clockText() {
        StringBuilder text = new StringBuilder();
        for (int v = upTo(2); v >= 0; v--) {
            text.append(1 + upTo(29)).append('x').append(1 + upTo(59)).append('h').append(1 + upTo(39));
            text.append(v > 0 ? ">" : "=");
        }
        text.append(1 + upTo(upTo(2) == 0 ? 98 : 14)).append('x').append(1 + upTo(98));
        text.append(";s").append(upTo(60)).append(";m");
        int most = 1 + upTo(upTo(1) == 0 ? 98 : 30);
        int last = 0;
        int marks = 1 + upTo(11);
        for (int i = 0; i < marks && last < most; i++) {
            last += 1 + upTo(Math.max(0, (most - last - 1) / (marks - i)));
            text.append(i > 0 ? "," : "").append(last);
        }
        return text.toString();
    }

    /** A text that is a CLOCK but for a letter or two. */
    private String spoilt() {
        StringBuilder text = new StringBuilder(clockText());
        String letters = "0123456789xh>=;sm,?";
        for (int i = upTo(2); i > 0; i--) {
            int place = upTo(text.length() - 1);
            char letter = letters.charAt(upTo(letters.length() - 1));
            switch (upTo(2)) {
                case 0: text.setCharAt(place, letter); break;
                case 1: text.insert(place, letter); break;
                default: text.setLength(Math.max(1, place)); break;
            }
        }
        return text.toString();
    }

    private void type(String text) {
        for (int start = 0; start < text.length(); start += 8) {
            long w = Check.packed(text.substring(start, Math.min(text.length(), start + 8)));
            same("letters(" + w + ")", x.letters(w), model.letters(w));
        }
    }

    private void page() {
        switch (upTo(4)) {
            case 0: same("blank()", x.blank(), model.blank()); break;
            case 1: type(clockText()); break;
            case 2: type(spoilt()); break;
            case 3: same("clock()", x.clock(), model.clock()); break;
            default:
                long w = upTo(3) == 0 ? random.nextLong() : random.nextLong() & 0x7f7fL;
                same("letters(" + w + ")", x.letters(w), model.letters(w));
                break;
        }
        same("fault()", x.fault(), model.fault());
    }

    private void faulty() {
        int kind = from(0, 4);
        int vessel = from(0, 2);
        int n = from(1, 20);
        int tick = upTo(1) == 0 ? from(0, 95) : from(0, 20);
        same("faulty(" + kind + ", " + vessel + ", " + n + ", " + tick + ")",
                x.faulty(kind, vessel, n, tick), model.faulty(kind, vessel, n, tick));
    }

    private void work() {
        int kind = from(0, 4);
        int[] least = {0, 0, 0, 1, 2};
        int[] most = {0, 9, 3, 9, 5};
        boolean is = kind >= 0 && kind <= 4;
        int n = is ? from(least[kind], most[kind]) : from(0, 5);
        int next = model.count(2) == 0 ? from(-1, -1) : upTo(4) == 0 ? from(-1, model.count(2) - 1) : model.count(2) - 1;
        same("work(" + kind + ", " + n + ", " + next + ")", x.work(kind, n, next), model.work(kind, n, next));
    }

    private void head() {
        int work = model.count(2) == 0 || upTo(5) == 0 ? from(-1, 0) : from(Math.max(0, model.count(2) - 3), model.count(2) - 1);
        same("head(" + work + ")", x.head(work), model.head(work));
    }

    private int aClock() {
        return from(0, Math.max(0, model.count(0) - 1));
    }

    private int aFault() {
        return from(-1, Math.max(-1, model.count(1) - 1));
    }

    private int aBall(int clock, int least) {
        int marks = model.told(clock, 4);
        return from(least, Math.max(0, marks - 1));
    }

    private void step() {
        switch (upTo(15)) {
            case 0: page(); break;
            case 1: settings(); break;
            case 2: casts(); break;
            case 3: faulty(); break;
            case 4: work(); head(); break;
            case 5: case 6: runs(); break;
            case 7: shows(); break;
            case 8: designs(); break;
            case 9: case 10: logs(); break;
            case 11: searches(); break;
            case 12: case 13: records(); break;
            case 14: kept(); break;
            default: told(); break;
        }
        if (upTo(9) == 0) {
            same("digest()", x.digest(), model.digest());
        }
    }

    private void settings() {
        int season = from(0, 3);
        int what = from(0, 1);
        int v = what == 1 ? from(24, 72) : from(50, 150);
        same("season(" + season + ", " + what + ", " + v + ")", x.season(season, what, v), model.season(season, what, v));
    }

    private void casts() {
        int fault = aFault();
        int kind = from(0, 4);
        same("as(" + fault + ", " + kind + ")", x.as(fault, kind), model.as(fault, kind));
        int work = from(-1, Math.max(0, model.count(2) - 1));
        same("workAs(" + work + ", " + kind + ")", x.workAs(work, kind), model.workAs(work, kind));
    }

    private void runs() {
        int c = aClock();
        int s = from(0, 3);
        int f = aFault();
        int b = aBall(c, 0);
        String of = "(" + c + ", " + s + ", " + f + ", ";
        same("drops" + of + b + ")", x.drops(c, s, f, b), model.drops(c, s, f, b));
        same("error" + of + b + ")", x.error(c, s, f, b), model.error(c, s, f, b));
        int tick = from(0, 95);
        int what = from(0, 7);
        same("at" + of + tick + ", " + what + ")", x.at(c, s, f, tick, what), model.at(c, s, f, tick, what));
        int part = from(0, 1);
        same("even" + of + part + ")", x.even(c, s, f, part), model.even(c, s, f, part));
        same("mean" + of + part + ")", x.mean(c, s, f, part), model.mean(c, s, f, part));
    }

    private void shows() {
        int c = aClock();
        int s = from(0, 3);
        int f = aFault();
        int some = from(10, 29);
        for (int what : new int[] {0, 1, 2, 3, 10, 12, some}) {
            same("shows(" + c + ", " + s + ", " + f + ", " + what + ")", x.shows(c, s, f, what), model.shows(c, s, f, what));
        }
    }

    private void designs() {
        int c = aClock();
        int other = aClock();
        int s = from(0, 3);
        int what = from(0, 2);
        same("worst(" + c + ", " + what + ")", x.worst(c, what), model.worst(c, what));
        same("better(" + c + ", " + other + ")", x.better(c, other), model.better(c, other));
        int hour = aBall(c, 0);
        same("mark(" + c + ", " + s + ", " + hour + ")", x.mark(c, s, hour), model.mark(c, s, hour));
        int v = from(0, 2);
        int days = upTo(1) == 0 ? from(1, 5) : from(1, 30);
        int worst = Math.max(0, model.worst(c, 0));
        int t = upTo(1) == 0 ? from(0, 96) : from(worst - 1, worst + 3);
        same("mended(" + c + ", " + s + ", " + v + ", " + days + ", " + t + ")",
                x.mended(c, s, v, days, t), model.mended(c, s, v, days, t));
    }

    /** Often what a RUN gives, so that some RUNS agree. */
    private void logs() {
        int c = aClock();
        int s = upTo(3);
        int f = aFault();
        int ball = upTo(3) == 0 ? from(0, 11) : aBall(c, 0);
        int drops = model.drops(c, s, f, ball);
        int tick = upTo(3) == 0 || drops < -1 ? from(-1, 96) : upTo(2) == 0 ? -1 : drops < 0 ? 96 : drops;
        same("log(" + ball + ", " + tick + ")", x.log(ball, tick), model.log(ball, tick));
        same("agrees(" + c + ", " + s + ", " + f + ")", x.agrees(c, s, f), model.agrees(c, s, f));
        same("which(" + c + ", " + s + ")", x.which(c, s), model.which(c, s));
    }

    /** THE LOG is made to tell what a RUN gives, for one or two BALLS, ahead of some searches. */
    private void searches() {
        int c = aClock();
        int s = upTo(3);
        int f = aFault();
        if (upTo(2) > 0) {
            int kept = aBall(c, 0);
            for (int ball = 0; ball < 12; ball++) {
                int drops = ball == kept || upTo(11) == 0 ? model.drops(c, s, f, ball) : -101;
                int tick = drops < -1 ? -1 : drops < 0 ? 96 : drops;
                same("log(" + ball + ", " + tick + ")", x.log(ball, tick), model.log(ball, tick));
            }
        }
        int kind = from(1, 4);
        int v = from(0, Math.max(0, model.told(c, 0) - 1));
        int what = from(0, 3);
        if (upTo(1) == 0) {
            same("sought(" + c + ", " + s + ", " + kind + ", " + v + ", " + what + ")",
                    x.sought(c, s, kind, v, what), model.sought(c, s, kind, v, what));
        } else {
            same("lost(" + c + ", " + s + ", " + v + ", " + what + ")", x.lost(c, s, v, what), model.lost(c, s, v, what));
        }
    }

    private void records() {
        int c = aClock();
        int s = from(0, 3);
        int f = aFault();
        int b = aBall(c, -1);
        int what = from(0, 1);
        same("span(" + c + ", " + s + ", " + f + ", " + b + ", " + what + ")",
                x.span(c, s, f, b, what), model.span(c, s, f, b, what));
        int drops = model.span(c, s, f, b, upTo(1));
        int sky = upTo(1) == 0 || drops < 0 ? from(0, 95) : from(drops - 1, drops + 1);
        same("record(" + c + ", " + s + ", " + b + ", " + sky + ", " + what + ")",
                x.record(c, s, b, sky, what), model.record(c, s, b, sky, what));
    }

    private void kept() {
        if (upTo(1) == 0) {
            same("image()", x.image(), model.image());
        } else {
            same("restore()", x.restore(), model.restore());
        }
    }

    private void told() {
        int c = aClock();
        int what = from(0, 52);
        same("told(" + c + ", " + what + ")", x.told(c, what), model.told(c, what));
        int counted = from(0, 5);
        same("count(" + counted + ")", x.count(counted), model.count(counted));
    }
}
