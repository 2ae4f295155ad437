import java.util.ArrayList;
import java.util.List;
import java.util.regex.Matcher;
import java.util.regex.Pattern;

/** The document written down a second time, as plainly and as slowly as can be, to compare with. */
final class PlainWheel {
    static final int NONE = -1, UNKNOWN = -2, OUTSIDE = -3, NOT = -4, FULL = -5;

    /** All that a trial may change, so that a trial is a copy. */
    static final class State {
        int heading, ticks, rudder;
        Integer looked = null;
        long[] off = new long[3], rate = new long[3];

        State copy() {
            State s = new State();
            s.heading = heading;
            s.ticks = ticks;
            s.rudder = rudder;
            s.looked = looked;
            s.off = off.clone();
            s.rate = rate.clone();
            return s;
        }
    }

    State state = new State();
    int place, speed, agile = 20, course;
    int[] kind = new int[3], toldSpeed = new int[3], toldPlace = new int[3];
    int[][] tunes = {{10, 20, 0}, {10, 20, 0}, {10, 20, 0}};
    int[] deviations = new int[8];
    List<Integer> yaws = new ArrayList<>();
    StringBuilder text = new StringBuilder();
    int[] steers = {0, 100, 0, 35, 1, 0};
    List<int[]> looks = new ArrayList<>(), abouts = new ArrayList<>(), watched = new ArrayList<>();

    static boolean in(long v, long a, long b) {
        return a <= v && v <= b;
    }

    static int circle(long v) {
        while (v < 0) {
            v += 36000;
        }
        while (v > 35999) {
            v -= 36000;
        }
        return (int) v;
    }

    static int signed(long v) {
        int h = circle(v);
        return h >= 18000 ? h - 36000 : h;
    }

    static boolean isPointer(int p) {
        return p == 0 || p == 1 || p == 2;
    }

    static long leanOf(int s, int p, int h) {
        int degrees = (h <= 18000 ? h : 36000 - h) / 100;
        return (long) s * (90 - degrees) * 20 / (90 - (p < 0 ? -p : p));
    }

    int set(int what, int v) {
        if (!in(what, 0, 3)) {
            return OUTSIDE;
        }
        int[][] bounds = {{-89, 89}, {0, 40}, {0, 99}, {-35, 35}};
        if (!in(v, bounds[what][0], bounds[what][1])) {
            return OUTSIDE;
        }
        int[] was = {place, speed, agile, state.rudder};
        switch (what) {
            case 0 -> place = v;
            case 1 -> speed = v;
            case 2 -> agile = v;
            default -> state.rudder = v;
        }
        return was[what] + 100;
    }

    int head(int h) {
        if (!in(h, 0, 35999)) {
            return OUTSIDE;
        }
        int was = state.heading;
        state.heading = h;
        return was;
    }

    int sea(int yaw) {
        if (!in(yaw, -999, 999)) {
            return OUTSIDE;
        }
        if (yaws.size() == 24) {
            return FULL;
        }
        yaws.add(yaw);
        return yaws.size();
    }

    int calm() {
        int were = yaws.size();
        yaws.clear();
        return were;
    }

    int kind(int p, int k) {
        if (!isPointer(p)) {
            return UNKNOWN;
        }
        if (!in(k, 0, 5)) {
            return OUTSIDE;
        }
        int was = kind[p];
        kind[p] = k;
        state.off[p] = 0;
        state.rate[p] = 0;
        return was;
    }

    int tune(int p, int what, int v) {
        if (!isPointer(p)) {
            return UNKNOWN;
        }
        if (!in(what, 0, 2) || !in(v, 0, 99)) {
            return OUTSIDE;
        }
        int was = tunes[p][what];
        tunes[p][what] = v;
        return was;
    }

    int off(int p, int o) {
        if (!isPointer(p)) {
            return UNKNOWN;
        }
        if (!in(o, -18000, 17999)) {
            return OUTSIDE;
        }
        state.off[p] = o;
        state.rate[p] = 0;
        return 1;
    }

    int told(int p, int s, int at) {
        if (!isPointer(p)) {
            return UNKNOWN;
        }
        if (!in(s, 0, 40) || !in(at, -89, 89)) {
            return OUTSIDE;
        }
        toldSpeed[p] = s;
        toldPlace[p] = at;
        return 1;
    }

    int iron(int k, int v) {
        if (!in(k, 0, 7) || !in(v, -2000, 2000)) {
            return OUTSIDE;
        }
        deviations[k] = v;
        return 1;
    }

    int shown(State s, int p) {
        int bare = circle(s.heading - s.off[p]);
        switch (kind[p]) {
            case 0: return 0;
            case 4: return circle(bare + leanOf(toldSpeed[p], toldPlace[p], bare));
            case 5: return circle(s.heading - deviationAt(s.heading));
            default: return bare;
        }
    }

    long deviationAt(int h) {
        int k = 0;
        while (h >= 4500 * (k + 1)) {
            k++;
        }
        long from = deviations[k], to = deviations[k == 7 ? 0 : k + 1];
        return from + (to - from) * (h - 4500 * k) / 4500;
    }

    int shows(int p) {
        return isPointer(p) ? shown(state, p) : UNKNOWN;
    }

    int now(int p, int what) {
        if (!isPointer(p)) {
            return UNKNOWN;
        }
        return !in(what, 0, 1) ? OUTSIDE : (int) (what == 0 ? state.off[p] : state.rate[p]) + 50000;
    }

    int lean(int s, int p, int h) {
        return in(s, 0, 40) && in(p, -89, 89) && in(h, 0, 35999) ? (int) leanOf(s, p, h) + 100000 : OUTSIDE;
    }

    int deviation(int h) {
        return in(h, 0, 35999) ? (int) deviationAt(h) + 50000 : OUTSIDE;
    }

    /** off and rate behind a tick, of one that swings. */
    static long[] swung(long off, long rate, int[] tune, int at, long aim, int turn, boolean damped) {
        long out = damped ? signed(off - aim) : off;
        rate = rate - tune[0] * (90L - Math.abs(at)) * out / 9000;
        if (damped) {
            rate = rate - rate * tune[1] / 100;
            rate = rate + (long) turn * tune[2] / 100;
        }
        rate = rate > 9999 ? 9999 : rate < -9999 ? -9999 : rate;
        return new long[] {signed(off + rate), rate};
    }

    void tick(State s) {
        int turn = s.rudder * agile + (yaws.isEmpty() ? 0 : yaws.get(s.ticks % yaws.size()));
        s.heading = circle(s.heading + turn);
        for (int p = 0; p < 3; p++) {
            if (kind[p] == 1) {
                s.off[p] = signed(s.off[p] - 25 * place / 90);
            }
            if (kind[p] == 2 || kind[p] == 3 || kind[p] == 4) {
                long[] next = swung(s.off[p], s.rate[p], tunes[p], place, leanOf(speed, place, s.heading), turn, kind[p] != 2);
                s.off[p] = next[0];
                s.rate[p] = next[1];
            }
        }
        s.ticks++;
    }

    void steer(State s, int dead) {
        if (s.ticks % steers[4] != 0) {
            return;
        }
        int shown = shown(s, steers[5]);
        int out = signed(course - shown);
        int goes = s.looked == null ? 0 : signed(shown - s.looked);
        s.looked = shown;
        int rudder = out * steers[1] / 10000 - goes * steers[2] / 10000;
        rudder = rudder > steers[3] ? steers[3] : rudder < -steers[3] ? -steers[3] : rudder;
        s.rudder = Math.abs(out) <= 10 * dead ? 0 : rudder;
    }

    int run(int n, boolean steered) {
        if (!in(n, 1, 500) || state.ticks + n > 5000) {
            return OUTSIDE;
        }
        for (int i = 0; i < n; i++) {
            if (steered) {
                steer(state, steers[0]);
            }
            tick(state);
        }
        return state.heading;
    }

    int write(long bytes, int n) {
        if (!in(n, 1, 8)) {
            return OUTSIDE;
        }
        if (text.length() + n > 160) {
            return FULL;
        }
        for (int i = 0; i < n; i++) {
            text.append((char) (bytes >>> 8 * i & 255));
        }
        return text.length();
    }

    int erase() {
        int had = text.length();
        text.setLength(0);
        return had;
    }

    static final List<String> WORDS = List.of("dead", "gain", "meet", "most", "every", "by");

    /** The fault; the numbers of the text in what is given. */
    int read(int[] numbers) {
        int[] least = {0, 0, 0, 0, 1, 0}, greatest = {999, 999, 999, 35, 99, 2};
        Matcher tokens = Pattern.compile("[a-z]+|[0-9]+|[^ ]", Pattern.DOTALL).matcher(text);
        int number = 0, word = -1;
        while (tokens.find()) {
            String t = tokens.group();
            boolean fits;
            switch (number % 3) {
                case 0:
                    word = WORDS.indexOf(t);
                    fits = word >= 0;
                    break;
                case 1:
                    fits = t.matches("[0-9]{1,3}") && in(Integer.parseInt(t), least[word], greatest[word]);
                    if (fits) {
                        numbers[word] = Integer.parseInt(t);
                    }
                    break;
                default:
                    fits = t.equals(";") && number < 23;
            }
            if (!fits) {
                return tokens.start();
            }
            number++;
        }
        return number % 3 == 2 ? NONE : text.length();
    }

    int fault() {
        return read(new int[6]);
    }

    int steerer() {
        int[] numbers = {0, 100, 0, 35, 1, 0};
        if (read(numbers) != NONE) {
            return NOT;
        }
        int lines = text.toString().split(";").length;
        steers = numbers;
        state.looked = null;
        text.setLength(0);
        return lines;
    }

    int steers(int what) {
        return in(what, 0, 5) ? steers[what] : OUTSIDE;
    }

    int course(int h) {
        if (!in(h, 0, 35999)) {
            return OUTSIDE;
        }
        int was = course;
        course = h;
        state.looked = null;
        return was;
    }

    /** OFF behind 0, 1, .. n ticks, in the first k of which there is a turn. */
    static long[] path(int[] tune, int at, long from, int n, int k, int turn, boolean damped) {
        long[] path = new long[n + 1];
        long rate = 0;
        path[0] = from;
        for (int i = 1; i <= n; i++) {
            long[] next = swung(path[i - 1], rate, tune, at, 0, i <= k ? turn : 0, damped);
            path[i] = next[0];
            rate = next[1];
        }
        return path;
    }

    static int rests(long[] path) {
        for (int from = 0; from < path.length; from++) {
            boolean still = true;
            for (int i = from; i < path.length; i++) {
                still &= in(path[i], -100, 100);
            }
            if (still) {
                return from;
            }
        }
        return NONE;
    }

    int swing(int p, int from, boolean damped, int what) {
        if (!isPointer(p)) {
            return UNKNOWN;
        }
        if (!in(from, -9000, 9000) || from == 0 || !in(what, 0, 2)) {
            return OUTSIDE;
        }
        long[] path = path(tunes[p], place, from, 600, 0, 0, damped);
        if (what == 2) {
            return rests(path);
        }
        int crosses = 1;
        while (crosses <= 600 && Long.signum(path[crosses]) == Integer.signum(from)) {
            crosses++;
        }
        if (crosses == 601) {
            return NONE;
        }
        int far = crosses;
        for (int i = crosses; i <= 600; i++) {
            far = Math.abs(path[i]) > Math.abs(path[far]) ? i : far;
        }
        return what == 0 ? crosses : (int) path[far] + 50000;
    }

    int noUse(int p) {
        if (!isPointer(p)) {
            return UNKNOWN;
        }
        for (int at = 0; at <= 89; at++) {
            long last = path(tunes[p], at, 3000, 600, 0, 0, true)[600];
            if (!in(last, -100, 100)) {
                return at;
            }
        }
        return NONE;
    }

    private int farthest(int p, int pull, int n, int k, int t) {
        long far = 0;
        for (long off : path(new int[] {pull, tunes[p][1], tunes[p][2]}, place, 0, n, k, t, true)) {
            far = Math.max(far, Math.abs(off));
        }
        return (int) far;
    }

    int turned(int p, int n, int k, int t) {
        if (!isPointer(p)) {
            return UNKNOWN;
        }
        return in(n, 1, 300) && in(k, 0, n) && in(t, -999, 999) ? farthest(p, tunes[p][0], n, k, t) : OUTSIDE;
    }

    int bestPull(int p, int n, int k, int t) {
        if (!isPointer(p)) {
            return UNKNOWN;
        }
        if (!in(n, 1, 300) || !in(k, 0, n) || !in(t, -999, 999)) {
            return OUTSIDE;
        }
        int best = 99, least = farthest(p, 99, n, k, t);
        for (int pull = 98; pull > 0; pull--) {
            int far = farthest(p, pull, n, k, t);
            best = far <= least ? pull : best;
            least = Math.min(far, least);
        }
        return best;
    }

    private int[] trial(int n, int dead) {
        State s = state.copy();
        int worst = 0, dear = 0;
        for (int i = 1; i <= n; i++) {
            steer(s, dead);
            tick(s);
            dear += Math.abs(s.rudder);
            worst = i > n / 2 ? Math.max(worst, Math.abs(signed(course - s.heading))) : worst;
        }
        return new int[] {worst, dear};
    }

    int kept(int n, int dead, int what) {
        return in(n, 1, 300) && in(dead, 0, 999) && in(what, 0, 1) ? trial(n, dead)[what] : OUTSIDE;
    }

    int bestDead(int n, int allowance) {
        if (!in(n, 1, 300) || !in(allowance, 0, 18000)) {
            return OUTSIDE;
        }
        int best = NONE, least = Integer.MAX_VALUE;
        for (int dead = 990; dead >= 0; dead -= 10) {
            int[] t = trial(n, dead);
            if (t[0] <= allowance && t[1] <= least) {
                best = dead;
                least = t[1];
            }
        }
        return best;
    }

    int look(int a, int b, int d) {
        if (!in(a, 0, 35999) || !in(b, 0, 35999) || !in(d, 0, 35999)) {
            return OUTSIDE;
        }
        if (looks.size() == 16) {
            return FULL;
        }
        looks.add(new int[] {a, b, d});
        return looks.size();
    }

    int wrong(int n, int what) {
        if (!in(n, 0, 9000) || !in(what, 0, 1)) {
            return OUTSIDE;
        }
        int bits = 0;
        for (int p = 0; p < 3; p++) {
            int so = 0;
            for (int[] l : looks) {
                int me = l[p], one = l[(p + 1) % 3], two = l[(p + 2) % 3];
                boolean alone = Math.abs(signed(me - one)) > n && Math.abs(signed(me - two)) > n;
                so += alone && Math.abs(signed(one - two)) <= n ? 1 : 0;
            }
            bits += so > 0 && (what == 1 || so == looks.size()) ? 1 << p : 0;
        }
        return bits;
    }

    int about(int h, int showed) {
        if (!in(h, 0, 35999) || !in(showed, 0, 35999)) {
            return OUTSIDE;
        }
        if (abouts.size() == 24) {
            return FULL;
        }
        abouts.add(new int[] {h, showed});
        return abouts.size();
    }

    int needle(int k, int what) {
        if (!in(k, 0, 7) || !in(what, 0, 1)) {
            return OUTSIDE;
        }
        List<Integer> errors = new ArrayList<>();
        for (int[] a : abouts) {
            if (in(signed(a[0] - 4500 * k), -2250, 2249)) {
                errors.add(signed(a[0] - a[1]));
            }
        }
        errors.sort(null);
        return errors.isEmpty() ? NONE : errors.get(what == 0 ? 0 : errors.size() - 1) + 50000;
    }

    int watch(int t, int o) {
        if (!in(t, 0, 60) || !in(o, -18000, 17999)) {
            return OUTSIDE;
        }
        if (watched.size() == 10) {
            return FULL;
        }
        watched.add(new int[] {t, o});
        return watched.size();
    }

    int may(int n, int what) {
        if (!in(n, 0, 999) || !in(what, 0, 2)) {
            return OUTSIDE;
        }
        List<long[]> paths = new ArrayList<>();
        int first = NONE;
        for (int pull = 0; pull <= 20; pull++) {
            for (int damp = 0; damp <= 20; damp++) {
                long[] path = path(new int[] {pull, damp, 0}, 0, 3000, 60, 0, 0, true);
                boolean fits = true;
                for (int[] w : watched) {
                    fits &= Math.abs(signed(path[w[0]] - w[1])) <= n;
                }
                if (fits) {
                    first = paths.isEmpty() ? 100 * pull + damp : first;
                    paths.add(path);
                }
            }
        }
        return what == 0 ? paths.size() : what == 1 ? first : next(paths);
    }

    private static int next(List<long[]> paths) {
        int next = NONE;
        long widest = -1;
        for (int t = 0; t <= 60 && !paths.isEmpty(); t++) {
            long least = Long.MAX_VALUE, greatest = Long.MIN_VALUE;
            for (long[] path : paths) {
                least = Math.min(least, path[t]);
                greatest = Math.max(greatest, path[t]);
            }
            if (greatest - least > widest) {
                widest = greatest - least;
                next = t;
            }
        }
        return next;
    }

    int count(int what) {
        int[] counts = {state.ticks, state.heading, state.rudder + 50, yaws.size(), text.length(),
            looks.size(), abouts.size(), watched.size()};
        return in(what, 0, 7) ? counts[what] : OUTSIDE;
    }
}
