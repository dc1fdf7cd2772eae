import java.util.ArrayList;
import java.util.Arrays;
import java.util.List;
import java.util.regex.Matcher;
import java.util.regex.Pattern;

/**
 * A second telling of the document, slow and with the whole Java library, to hold the class
 * against: each DAY is kept whole, texts are read by patterns, KINDS are classes.
 */
final class Model {
    private static final int NONE = -1;
    private static final int UNKNOWN = -101;
    private static final int OUTSIDE = -102;
    private static final int STATE = -103;
    private static final int FULL = -104;

    private static final String AREA = "([12][0-9]|30|[1-9])";
    private static final String TO_60 = "([1-5][0-9]|60|[1-9])";
    private static final String HOLE = "([1-3][0-9]|40|[1-9])";
    private static final String TO_99 = "([1-9][0-9]|[1-9])";
    private static final String VESSEL = AREA + "x" + TO_60 + "h" + HOLE;
    private static final Pattern TEXT = Pattern.compile(VESSEL + "(>" + VESSEL + "){0,2}=" + TO_99 + "x" + TO_99
            + ";s(" + TO_60 + "|0);m" + TO_99 + "(," + TO_99 + "){0,11}");

    /** Numbers of a text in their order: those of VESSELS, of the CYLINDER, SUPPLY, MARKS. */
    private static final class Spec {
        List<int[]> vessels = new ArrayList<>();
        int area;
        int height;
        int supply;
        int[] marks;

        Spec copy() {
            Spec s = new Spec();
            for (int[] v : vessels) {
                s.vessels.add(v.clone());
            }
            s.area = area;
            s.height = height;
            s.supply = supply;
            s.marks = marks.clone();
            return s;
        }

        int trueTick(int hour, int daylight) {
            return (hour + 1) * daylight / marks.length;
        }
    }

    private static class Fault {
        int vessel;
        int n;
        int from;

        int holeLess() {
            return 0;
        }

        int leak() {
            return 0;
        }

        int colder() {
            return 0;
        }
    }

    private static class Clog extends Fault {
        @Override int holeLess() {
            return n;
        }
    }

    private static final class Wear extends Clog {
        @Override int holeLess() {
            return -n;
        }
    }

    private static final class Leak extends Fault {
        @Override int leak() {
            return n;
        }
    }

    private static final class Cold extends Fault {
        @Override int colder() {
            return n;
        }
    }

    private static Fault fault(int kind, int vessel, int n, int from) {
        Fault[] kinds = {new Fault(), new Clog(), new Wear(), new Leak(), new Cold()};
        Fault f = kinds[kind];
        f.vessel = vessel;
        f.n = n;
        f.from = from;
        return f;
    }

    private static boolean isA(Fault f, int kind) {
        boolean[] is = {true, f instanceof Clog, f instanceof Wear, f instanceof Leak, f instanceof Cold};
        return is[kind];
    }

    private static int kindOf(Fault f) {
        return f instanceof Wear ? 2 : f instanceof Clog ? 1 : f instanceof Leak ? 3 : f instanceof Cold ? 4 : 0;
    }

    /** A whole DAY, kept TICK by TICK. */
    private static final class Day {
        final int[][] rows = new int[96][];
        final int[] in = new int[96];
        final int[] drop;

        Day(Spec s, int warmth, Fault f, boolean withSiphon) {
            drop = new int[s.marks.length];
            Arrays.fill(drop, 96);
            int[] water = new int[s.vessels.size()];
            for (int v = 0; v < water.length; v++) {
                water[v] = s.vessels.get(v)[0] * s.vessels.get(v)[1];
            }
            int cylinder = 0;
            int over = 0;
            int leaked = 0;
            int emptied = 0;
            for (int t = 0; t < 96; t++) {
                boolean on = f != null && t >= f.from;
                int coming = s.supply;
                for (int v = 0; v < water.length; v++) {
                    int[] told = s.vessels.get(v);
                    water[v] += coming;
                    over += Math.max(0, water[v] - told[0] * told[1]);
                    water[v] = Math.min(water[v], told[0] * told[1]);
                    int hole = told[2] - (on && f.vessel == v ? f.holeLess() : 0);
                    int warm = warmth - (on ? f.colder() : 0);
                    coming = Math.min(water[v], Math.max(0, hole) * (water[v] / told[0]) * warm / 1000);
                    water[v] -= coming;
                }
                cylinder += coming;
                in[t] = coming;
                if (on && f.vessel < water.length) {
                    int gone = Math.min(f.leak(), water[f.vessel]);
                    water[f.vessel] -= gone;
                    leaked += gone;
                }
                int down = 0;
                for (int i = 0; i < drop.length; i++) {
                    if (drop[i] == 96 && cylinder / s.area >= s.marks[i]) {
                        drop[i] = t;
                    }
                    down += drop[i] <= t ? 1 : 0;
                }
                if (withSiphon && down == drop.length && cylinder / s.area >= s.height) {
                    cylinder = 0;
                    emptied++;
                }
                int[] w = Arrays.copyOf(water, 3);
                Arrays.fill(w, water.length, 3, NONE);
                rows[t] = new int[] {w[0], w[1], w[2], cylinder, down, over, leaked, emptied};
            }
        }

        int size(int ball, Spec s, int daylight) {
            return Math.abs(drop[ball] - s.trueTick(ball, daylight));
        }

        int worst(Spec s, int daylight) {
            int most = 0;
            for (int i = 0; i < drop.length; i++) {
                most = Math.max(most, size(i, s, daylight));
            }
            return most;
        }

        /** SPAN as first and last, or null. */
        int[] span(int ball) {
            int first = ball == NONE ? 0 : drop[ball];
            int next = ball + 1 < drop.length ? drop[ball + 1] : 96;
            return first == 96 || first >= next ? null : new int[] {first, next - 1};
        }
    }

    private record Work(int kind, int n, int next) {
    }

    /** WORKS at play in a DAY; what is struck at once goes on by recursion. */
    private final class Show {
        final List<int[]> cranks = new ArrayList<>();
        final List<Integer> out = new ArrayList<>();
        final boolean[] stuck = new boolean[10];
        final int[] struck = new int[10];
        final int[] lastOut = {-9, -9, -9, -9};
        int balls;
        int strokes;
        int first = NONE;
        int when = NONE;

        Show(Day d) {
            for (int t = 0; t < 96; t++) {
                for (int[] c : new ArrayList<>(cranks)) {
                    if (c[1] == t) {
                        strike(works.get(c[0]).next(), t);
                    }
                }
                for (int drop : d.drop) {
                    if (drop == t) {
                        balls++;
                        strike(head, t);
                    }
                }
            }
        }

        private void strike(int w, int t) {
            if (w == NONE || stuck[w]) {
                return;
            }
            Work work = works.get(w);
            struck[w]++;
            if (work.kind() == 1) {
                strokes += balls + work.n();
            } else if (work.kind() == 2 && t - lastOut[work.n()] <= 2) {
                stuck[w] = true;
                when = first == NONE ? t : when;
                first = first == NONE ? w : first;
                return;
            } else if (work.kind() == 2) {
                lastOut[work.n()] = t;
                out.add(w);
            } else if (work.kind() == 3) {
                cranks.add(new int[] {w, t + work.n()});
                return;
            } else if (work.kind() == 4 && struck[w] % work.n() != 0) {
                return;
            }
            strike(work.next(), t);
        }

        int tell(int what) {
            int[] four = {strokes, out.size(), first, when};
            return what < 4 ? four[what] : what - 10 < out.size() ? out.get(what - 10) : NONE;
        }
    }

    private final List<Spec> clocks = new ArrayList<>();
    private final List<Fault> faults = new ArrayList<>();
    private final List<Work> works = new ArrayList<>();
    private String page = "";
    private int[] warmth = {100, 100, 100, 100};
    private int[] daylight = {48, 48, 48, 48};
    private int[] log = {NONE, NONE, NONE, NONE, NONE, NONE, NONE, NONE, NONE, NONE, NONE, NONE};
    private int head = NONE;
    private int[][] image;
    private int searches;

    private static boolean in(int v, int least, int most) {
        return least <= v && v <= most;
    }

    private boolean unknown(int clock, int season) {
        return !in(clock, 0, clocks.size() - 1) || !in(season, 0, 3);
    }

    private boolean unknown(int clock, int season, int fault) {
        return unknown(clock, season) || !in(fault, NONE, faults.size() - 1);
    }

    private Day day(int clock, int season, int fault) {
        return new Day(clocks.get(clock), warmth[season], fault == NONE ? null : faults.get(fault), true);
    }

    int letters(long w) {
        StringBuilder more = new StringBuilder();
        boolean ended = false;
        for (int i = 0; i < 64; i += 8) {
            int code = (int) (w >> i & 255);
            if (code > 126 || ended && code > 0) {
                return OUTSIDE;
            }
            ended |= code == 0;
            if (code > 0) {
                more.append((char) code);
            }
        }
        if (page.length() + more.length() > 80) {
            return FULL;
        }
        page += more;
        return page.length();
    }

    int blank() {
        int had = page.length();
        page = "";
        return had;
    }

    private static boolean marksRise(String marks, boolean whole) {
        String[] each = marks.split(",", -1);
        int last = 0;
        for (int i = 0; i < each.length; i++) {
            boolean begun = i == each.length - 1 && !whole;
            int found = NONE;
            for (int m = last + 1; m <= 99; m++) {
                String told = String.valueOf(m);
                if (begun ? told.startsWith(each[i]) : told.equals(each[i])) {
                    found = m;
                }
            }
            if (found == NONE) {
                return false;
            }
            last = found;
        }
        return true;
    }

    private static boolean fits(String text, boolean whole) {
        Matcher m = TEXT.matcher(text);
        boolean fits = m.matches();
        if (!fits && (whole || !m.hitEnd())) {
            return false;
        }
        int marks = text.indexOf('m');
        return marks < 0 ? !whole : marksRise(text.substring(marks + 1), whole);
    }

    int fault() {
        for (int i = 1; i <= page.length(); i++) {
            if (!fits(page.substring(0, i), false)) {
                return i - 1;
            }
        }
        return page.length();
    }

    int clock() {
        if (!fits(page, true)) {
            return STATE;
        }
        if (clocks.size() == 4) {
            return FULL;
        }
        Spec s = new Spec();
        String[] parts = page.split("[=;]");
        for (String vessel : parts[0].split(">")) {
            s.vessels.add(numbers(vessel.split("[xh]")));
        }
        int[] cylinder = numbers(parts[1].split("x"));
        s.area = cylinder[0];
        s.height = cylinder[1];
        s.supply = Integer.parseInt(parts[2].substring(1));
        s.marks = numbers(parts[3].substring(1).split(","));
        clocks.add(s);
        page = "";
        return clocks.size() - 1;
    }

    private static int[] numbers(String[] told) {
        int[] row = new int[told.length];
        for (int i = 0; i < row.length; i++) {
            row[i] = Integer.parseInt(told[i]);
        }
        return row;
    }

    int told(int clock, int what) {
        if (!in(clock, 0, clocks.size() - 1)) {
            return UNKNOWN;
        }
        Spec s = clocks.get(clock);
        int[] five = {s.vessels.size(), s.area, s.height, s.supply, s.marks.length};
        if (in(what, 0, 4)) {
            return five[what];
        }
        if (in(what, 40, 51)) {
            return what - 40 < s.marks.length ? s.marks[what - 40] : NONE;
        }
        for (int v = 0; v < 3; v++) {
            if (in(what, 10 * v + 10, 10 * v + 12)) {
                return v < s.vessels.size() ? s.vessels.get(v)[what - 10 * v - 10] : NONE;
            }
        }
        return OUTSIDE;
    }

    int season(int season, int what, int v) {
        if (!in(season, 0, 3)) {
            return UNKNOWN;
        }
        if (!in(what, 0, 1) || !in(v, what == 0 ? 50 : 24, what == 0 ? 150 : 72)) {
            return OUTSIDE;
        }
        int[] row = what == 0 ? warmth : daylight;
        int was = row[season];
        row[season] = v;
        return was;
    }

    int faulty(int kind, int vessel, int n, int from) {
        if (!in(kind, 0, 4) || !in(vessel, 0, 2) || !in(n, 1, 20) || !in(from, 0, 95)) {
            return OUTSIDE;
        }
        if (faults.size() == 8) {
            return FULL;
        }
        faults.add(fault(kind, vessel, n, from));
        return faults.size() - 1;
    }

    int as(int fault, int kind) {
        if (!in(fault, 0, faults.size() - 1)) {
            return UNKNOWN;
        }
        return !in(kind, 0, 4) ? OUTSIDE : isA(faults.get(fault), kind) ? fault : NONE;
    }

    int work(int kind, int n, int next) {
        int[] least = {0, 0, 0, 1, 2};
        int[] most = {0, 9, 3, 9, 5};
        if (!in(kind, 0, 4) || !in(n, least[kind], most[kind])) {
            return OUTSIDE;
        }
        if (!in(next, NONE, works.size() - 1)) {
            return UNKNOWN;
        }
        if (works.size() == 10) {
            return FULL;
        }
        works.add(new Work(kind, n, next));
        return works.size() - 1;
    }

    int workAs(int work, int kind) {
        if (!in(work, 0, works.size() - 1)) {
            return UNKNOWN;
        }
        if (!in(kind, 0, 4)) {
            return OUTSIDE;
        }
        int own = works.get(work).kind();
        return kind == 0 || kind == own || kind == 3 && own == 4 ? work : NONE;
    }

    int head(int work) {
        if (!in(work, NONE, works.size() - 1)) {
            return UNKNOWN;
        }
        int was = head;
        head = work;
        return was;
    }

    int drops(int clock, int season, int fault, int ball) {
        if (unknown(clock, season, fault) || !in(ball, 0, clocks.get(clock).marks.length - 1)) {
            return UNKNOWN;
        }
        int tick = day(clock, season, fault).drop[ball];
        return tick == 96 ? NONE : tick;
    }

    int error(int clock, int season, int fault, int ball) {
        if (unknown(clock, season, fault) || !in(ball, 0, clocks.get(clock).marks.length - 1)) {
            return -1001;
        }
        return day(clock, season, fault).drop[ball] - clocks.get(clock).trueTick(ball, daylight[season]);
    }

    int at(int clock, int season, int fault, int tick, int what) {
        if (unknown(clock, season, fault)) {
            return UNKNOWN;
        }
        return in(tick, 0, 95) && in(what, 0, 7) ? day(clock, season, fault).rows[tick][what] : OUTSIDE;
    }

    int even(int clock, int season, int fault, int what) {
        if (unknown(clock, season, fault)) {
            return UNKNOWN;
        }
        int[] sorted = day(clock, season, fault).in;
        Arrays.sort(sorted);
        return what == 0 ? sorted[0] : what == 1 ? sorted[95] : OUTSIDE;
    }

    int mean(int clock, int season, int fault, int part) {
        if (unknown(clock, season, fault)) {
            return UNKNOWN;
        }
        Day d = day(clock, season, fault);
        int below = d.drop.length;
        int above = 0;
        for (int i = 0; i < below; i++) {
            above += d.size(i, clocks.get(clock), daylight[season]);
        }
        for (int k = 12; k > 1; k--) {
            if (above % k == 0 && below % k == 0) {
                above /= k;
                below /= k;
            }
        }
        return part == 0 ? above : part == 1 ? below : OUTSIDE;
    }

    int shows(int clock, int season, int fault, int what) {
        if (unknown(clock, season, fault)) {
            return UNKNOWN;
        }
        return in(what, 0, 3) || in(what, 10, 29) ? new Show(day(clock, season, fault)).tell(what) : OUTSIDE;
    }

    private int[] worst(int clock) {
        int[] found = {NONE, 0, 0};
        for (int s = 0; s < 4; s++) {
            Day d = day(clock, s, NONE);
            for (int i = 0; i < d.drop.length; i++) {
                int size = d.size(i, clocks.get(clock), daylight[s]);
                found = size > found[0] ? new int[] {size, s, i} : found;
            }
        }
        return found;
    }

    int worst(int clock, int what) {
        if (!in(clock, 0, clocks.size() - 1)) {
            return UNKNOWN;
        }
        return in(what, 0, 2) ? worst(clock)[what] : OUTSIDE;
    }

    int better(int clock, int other) {
        if (!in(clock, 0, clocks.size() - 1) || !in(other, 0, clocks.size() - 1)) {
            return UNKNOWN;
        }
        return worst(clock)[0] <= worst(other)[0] ? clock : other;
    }

    /** Each MARK is tried, as that of the only BALL. */
    int mark(int clock, int season, int hour) {
        if (unknown(clock, season) || !in(hour, 0, clocks.get(clock).marks.length - 1)) {
            return UNKNOWN;
        }
        int due = clocks.get(clock).trueTick(hour, daylight[season]);
        for (int m = 1; m <= 99; m++) {
            Spec s = clocks.get(clock).copy();
            s.marks = new int[] {m};
            if (new Day(s, warmth[season], null, false).drop[0] == due) {
                return m;
            }
        }
        return NONE;
    }

    int mended(int clock, int season, int vessel, int days, int t) {
        if (unknown(clock, season)) {
            return UNKNOWN;
        }
        if (!in(vessel, 0, 2) || !in(days, 1, 30) || !in(t, 0, 96)) {
            return OUTSIDE;
        }
        for (int d = 0; d <= 60; d++) {
            Spec s = clocks.get(clock).copy();
            if (vessel < s.vessels.size()) {
                s.vessels.get(vessel)[2] += d / days;
            }
            if (new Day(s, warmth[season], null, true).worst(s, daylight[season]) > t) {
                return d;
            }
        }
        return NONE;
    }

    int log(int ball, int tick) {
        if (!in(ball, 0, 11)) {
            return UNKNOWN;
        }
        if (!in(tick, NONE, 96)) {
            return OUTSIDE;
        }
        int was = log[ball];
        log[ball] = tick;
        return was;
    }

    private boolean agrees(Day d) {
        for (int i = 0; i < 12; i++) {
            if (log[i] != NONE && (i >= d.drop.length || d.drop[i] != log[i])) {
                return false;
            }
        }
        return true;
    }

    int agrees(int clock, int season, int fault) {
        return unknown(clock, season, fault) ? UNKNOWN : agrees(day(clock, season, fault)) ? 1 : 0;
    }

    int which(int clock, int season) {
        if (unknown(clock, season)) {
            return UNKNOWN;
        }
        int bits = agrees(clock, season, NONE) << 8;
        for (int f = 0; f < faults.size(); f++) {
            bits += agrees(clock, season, f) << f;
        }
        return bits;
    }

    int sought(int clock, int season, int kind, int vessel, int what) {
        if (unknown(clock, season)) {
            return UNKNOWN;
        }
        if (!in(kind, 1, 4) || !in(vessel, 0, 2) || !in(what, 0, 3)) {
            return OUTSIDE;
        }
        if (searches == 20) {
            return STATE;
        }
        searches++;
        List<int[]> found = new ArrayList<>();
        for (int n = 1; n <= 20; n++) {
            for (int c = 0; c < 96; c++) {
                if (agrees(new Day(clocks.get(clock), warmth[season], fault(kind, vessel, n, c), true))) {
                    found.add(new int[] {n, c});
                }
            }
        }
        if (found.isEmpty()) {
            return what == 0 ? 0 : NONE;
        }
        int[] last = found.get(found.size() - 1);
        return new int[] {found.size(), found.get(0)[0], found.get(0)[1], last[0]}[what];
    }

    int lost(int clock, int season, int vessel, int what) {
        if (unknown(clock, season)) {
            return UNKNOWN;
        }
        if (!in(vessel, 0, clocks.get(clock).vessels.size() - 1) || !in(what, 0, 2)) {
            return OUTSIDE;
        }
        if (searches == 20) {
            return STATE;
        }
        searches++;
        List<int[]> found = new ArrayList<>();
        Spec s = clocks.get(clock).copy();
        for (int hole = 1; hole <= 40; hole++) {
            for (int supply = 0; supply <= 60; supply++) {
                s.vessels.get(vessel)[2] = hole;
                s.supply = supply;
                if (agrees(new Day(s, warmth[season], null, true))) {
                    found.add(new int[] {hole, supply});
                }
            }
        }
        return what == 0 ? found.size() : found.isEmpty() ? NONE : found.get(0)[what - 1];
    }

    int span(int clock, int season, int fault, int ball, int what) {
        if (unknown(clock, season, fault) || !in(ball, NONE, clocks.get(clock).marks.length - 1)) {
            return UNKNOWN;
        }
        if (!in(what, 0, 1)) {
            return OUTSIDE;
        }
        int[] span = day(clock, season, fault).span(ball);
        return span == null ? NONE : span[what];
    }

    private boolean holds(int clock, int season, int fault, int ball, int sky) {
        int[] span = day(clock, season, fault).span(ball);
        return span != null && in(sky, span[0], span[1]);
    }

    int record(int clock, int season, int ball, int sky, int what) {
        if (unknown(clock, season) || !in(ball, NONE, clocks.get(clock).marks.length - 1)) {
            return UNKNOWN;
        }
        if (!in(sky, 0, 95) || !in(what, 0, 1)) {
            return OUTSIDE;
        }
        for (int f = 0; what == 1 && f < faults.size(); f++) {
            if (holds(clock, season, f, ball, sky)) {
                return f;
            }
        }
        return what == 1 ? NONE : holds(clock, season, NONE, ball, sky) ? 1 : 0;
    }

    private int told() {
        int told = 0;
        for (int tick : log) {
            told += tick == NONE ? 0 : 1;
        }
        return told;
    }

    int image() {
        image = new int[][] {warmth.clone(), daylight.clone(), log.clone(), {head}};
        return told();
    }

    int restore() {
        if (image == null) {
            return STATE;
        }
        warmth = image[0].clone();
        daylight = image[1].clone();
        log = image[2].clone();
        head = image[3][0];
        return told();
    }

    int count(int what) {
        int[] six = {clocks.size(), faults.size(), works.size(), page.length(), told(), searches};
        return in(what, 0, 5) ? six[what] : OUTSIDE;
    }

    long digest() {
        List<Integer> all = new ArrayList<>();
        for (int s = 0; s < 4; s++) {
            all.addAll(List.of(warmth[s], daylight[s]));
        }
        for (int c = 0; c < clocks.size(); c++) {
            Spec s = clocks.get(c);
            all.addAll(List.of(s.vessels.size(), s.area, s.height, s.supply, s.marks.length));
            for (int[] v : s.vessels) {
                all.addAll(List.of(v[0], v[1], v[2]));
            }
            for (int m : s.marks) {
                all.add(m);
            }
            for (int i = 0; i < s.marks.length; i++) {
                all.add(drops(c, 0, NONE, i));
            }
            for (int what = 0; what < 4; what++) {
                all.add(shows(c, 0, NONE, what));
            }
        }
        for (Fault f : faults) {
            all.addAll(List.of(kindOf(f), f.vessel, f.n, f.from));
        }
        for (Work w : works) {
            all.addAll(List.of(w.kind(), w.n(), w.next()));
        }
        all.add(head);
        for (int tick : log) {
            all.add(tick);
        }
        for (char letter : page.toCharArray()) {
            all.add((int) letter);
        }
        for (int what = 0; what < 6; what++) {
            all.add(count(what));
        }
        long h = 409;
        for (int number : all) {
            h = 31 * h + number;
        }
        return h;
    }
}
