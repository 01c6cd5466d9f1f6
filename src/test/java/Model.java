import java.util.ArrayDeque;
import java.util.ArrayList;
import java.util.Deque;
import java.util.List;
import java.util.function.IntPredicate;
import java.util.regex.Matcher;
import java.util.regex.Pattern;

/**
 * The document once more, word by word and without thrift: kinds that ask the kind they are under,
 * all of the 200 minutes, a text cut by a pattern. The tests hold WrongWay against it.
 */
final class Model {
    private static final int NONE = -1, BAD = -2, NO = -3, FULL = -4;

    /** A kind in a house of floors 0 .. f. */
    private static class Plain {
        int round(int f) {
            return 2 * f;
        }

        int floor(int f, int p) {
            return p <= f ? p : 2 * f - p;
        }

        boolean taken(int f, int floor) {
            return true;
        }
    }

    private static final class Quick extends Plain {
        @Override
        int round(int f) {
            return f;
        }

        @Override
        int floor(int f, int p) {
            return super.floor(f, 2 * p);
        }
    }

    private static class Rests extends Plain {
        @Override
        int round(int f) {
            return super.round(f) + 4;
        }

        @Override
        int floor(int f, int p) {
            return p >= 2 * f ? 0 : super.floor(f, p);
        }
    }

    private static class Odd extends Plain {
        @Override
        boolean taken(int f, int floor) {
            return floor == 0 || floor % 2 != 0;
        }
    }

    private static final class Late extends Rests {
        @Override
        int round(int f) {
            return super.round(f) + 2;
        }

        @Override
        int floor(int f, int p) {
            if (p == f + 1 || p == f + 2) {
                return f;
            }
            return super.floor(f, p >= f + 3 ? p - 2 : p);
        }
    }

    private static final class Express extends Odd {
        @Override
        boolean taken(int f, int floor) {
            return floor == 0 || floor == f;
        }
    }

    private static final Plain[] KINDS = {
        new Plain(), new Quick(), new Rests(), new Odd(), new Late(), new Express()
    };

    private record Lift(int kind, int start) {
        int floor(int f, int m) {
            Plain k = KINDS[kind];
            return k.floor(f, (m + start) % k.round(f));
        }

        boolean taken(int f, int floor) {
            return KINDS[kind].taken(f, floor);
        }

        int way(int f, int m) {
            for (int t = m + 1; t < m + 1000; t++) {
                if (floor(f, t) != floor(f, m)) {
                    return floor(f, t) > floor(f, m) ? 1 : 0;
                }
            }
            return 0;
        }
    }

    private record Line(int every, int at) {}

    private record Noted(int lift, int floor, int minute, int there) {}

    /** A lift that came, in which minute. */
    private record Came(int lift, int minute) {}

    private static final class State {
        int f = 11;
        int minute = 0;
        List<Lift> lifts = new ArrayList<>();
        List<Line> lines = new ArrayList<>(List.of(new Line(10, 0), new Line(10, 0)));
        List<Noted> noted = new ArrayList<>();
        Deque<Integer> undo = new ArrayDeque<>();

        State copy() {
            State s = new State();
            s.f = f;
            s.minute = minute;
            s.lifts.addAll(lifts);
            s.lines = new ArrayList<>(lines);
            s.noted.addAll(noted);
            s.undo.addAll(undo);
            return s;
        }
    }

    private State s = new State();
    private final State[] images = new State[2];
    private final StringBuilder text = new StringBuilder();
    private long above = 0;
    private long below = 1;
    private int bads;
    private int nos;
    private int fulls;

    private int bad() {
        bads++;
        return BAD;
    }

    private int no() {
        nos++;
        return NO;
    }

    private int full() {
        fulls++;
        return FULL;
    }

    private static boolean in(int n, int least, int most) {
        return least <= n && n <= most;
    }

    private boolean floor(int f) {
        return in(f, 0, s.f);
    }

    private boolean isLift(int k) {
        return in(k, 0, s.lifts.size() - 1);
    }

    private int fraction(long a, long b) {
        long g = 1;
        for (long d = 1; d <= b; d++) {
            if (a % d == 0 && b % d == 0) {
                g = d;
            }
        }
        above = a / g;
        below = b / g;
        return 1;
    }

    int house(int f) {
        if (!in(f, 1, 11)) {
            return bad();
        }
        int had = s.lifts.size();
        s = new State();
        s.f = f;
        return had;
    }

    int lift(int kind, int start) {
        if (!in(kind, 0, 5) || !in(start, 0, 99)) {
            return bad();
        }
        if (s.lifts.size() == 4) {
            return full();
        }
        s.lifts.add(new Lift(kind, start));
        s.undo.clear();
        return s.lifts.size() - 1;
    }

    int line(int a, int every, int at) {
        if (!in(a, 0, 1) || !in(every, 1, 30) || !in(at, 0, 29)) {
            return bad();
        }
        Line had = s.lines.set(a, new Line(every, at));
        return 100 * had.every + had.at;
    }

    int type(int c) {
        if (!in(c, 0, 127)) {
            return bad();
        }
        if (text.length() == 150) {
            return full();
        }
        text.append((char) c);
        return text.length();
    }

    int clear() {
        int had = text.length();
        text.setLength(0);
        return had;
    }

    int read() {
        List<String> tokens = new ArrayList<>();
        List<Integer> places = new ArrayList<>();
        Matcher cut = Pattern.compile("[a-z]+|[0-9]+|[^ ]", Pattern.DOTALL).matcher(text);
        while (cut.find()) {
            tokens.add(cut.group());
            places.add(cut.start());
        }
        places.add(text.length());
        State told = new State();
        int items = 0;
        int at = 0;
        do {
            String word = at < tokens.size() ? tokens.get(at) : "";
            int[][] bounds = boundsOf(word, items, told.lifts.size());
            if (bounds == null) {
                return -10 - places.get(at);
            }
            int[] n = new int[3];
            for (int i = 0; i <= bounds.length; i++) {
                at++;
                String token = at < tokens.size() ? tokens.get(at) : "";
                boolean stands = i == bounds.length
                        ? token.equals(";")
                        : token.matches("[0-9]{1,2}")
                                && in(Integer.parseInt(token), bounds[i][0], bounds[i][1]);
                if (!stands) {
                    return -10 - places.get(at);
                }
                if (i < bounds.length) {
                    n[i] = Integer.parseInt(token);
                }
            }
            at++;
            items++;
            if (word.equals("house")) {
                told.f = n[0];
            } else if (word.equals("lift")) {
                told.lifts.add(new Lift(n[0], n[1]));
            } else {
                told.lines.set(n[0], new Line(n[1], n[2]));
            }
        } while (at < tokens.size());
        s = told;
        return items;
    }

    private static int[][] boundsOf(String word, int items, int lifts) {
        if (word.equals("house") && items == 0) {
            return new int[][] {{1, 11}};
        }
        if (word.equals("lift") && items > 0 && lifts < 4) {
            return new int[][] {{0, 5}, {0, 99}};
        }
        if (word.equals("line") && items > 0) {
            return new int[][] {{0, 1}, {1, 30}, {0, 29}};
        }
        return null;
    }

    int passes(int n) {
        if (!in(n, 1, 99)) {
            return bad();
        }
        s.undo.addLast(s.minute);
        if (s.undo.size() > 8) {
            s.undo.removeFirst();
        }
        s.minute = Math.min(999, s.minute + n);
        return s.minute;
    }

    int undo() {
        if (s.undo.isEmpty()) {
            return no();
        }
        s.minute = s.undo.removeLast();
        return s.minute;
    }

    int of(int lift, int what) {
        if (!isLift(lift) || !in(what, 0, 5)) {
            return bad();
        }
        Lift l = s.lifts.get(lift);
        int floor = l.floor(s.f, s.minute);
        int[] all = {
            l.kind, l.start, KINDS[l.kind].round(s.f), floor, l.way(s.f, s.minute),
            l.taken(s.f, floor) ? 1 : 0
        };
        return all[what];
    }

    int where(int lift, int m) {
        if (!isLift(lift) || !in(m, 0, 999)) {
            return bad();
        }
        return s.lifts.get(lift).floor(s.f, m);
    }

    /** What comes first of those lifts that may, going a way that may; null for none. */
    private Came comes(int f, int m, IntPredicate lifts, IntPredicate ways) {
        for (int t = m; t < m + 200; t++) {
            for (int k = 0; k < s.lifts.size(); k++) {
                Lift l = s.lifts.get(k);
                boolean seen = l.floor(s.f, t) == f && l.taken(s.f, f);
                if (seen && lifts.test(k) && ways.test(l.way(s.f, t))) {
                    return new Came(k, t);
                }
            }
        }
        return null;
    }

    private Came comes(int f, int m) {
        return comes(f, m, k -> true, w -> true);
    }

    int first(int f, int m, int what) {
        if (!floor(f) || !in(m, 0, 999) || !in(what, 0, 2)) {
            return bad();
        }
        Came c = comes(f, m);
        if (c == null) {
            return NONE;
        }
        int[] all = {c.lift, s.lifts.get(c.lift).way(s.f, c.minute), c.minute - m};
        return all[what];
    }

    int often(int f, int what) {
        if (!floor(f) || !in(what, 0, 1)) {
            return bad();
        }
        int n = 0;
        int sum = 0;
        for (int m = 0; m <= 119; m++) {
            Came c = comes(f, m);
            if (c != null) {
                n++;
                sum += what == 0 ? s.lifts.get(c.lift).way(s.f, c.minute) : c.minute - m;
            }
        }
        return n == 0 ? no() : fraction(sum, n);
    }

    int own(int f, int way) {
        if (!floor(f) || !in(way, 0, 1)) {
            return bad();
        }
        int n = 0;
        int sum = 0;
        for (int m = 0; m <= 119; m++) {
            Came c = comes(f, m, k -> true, w -> w == way);
            if (c != null) {
                n++;
                sum += c.minute - m;
            }
        }
        return n == 0 ? no() : fraction(sum, n);
    }

    private int rides(int f, int to, int m, IntPredicate ways) {
        if (f == to) {
            return 0;
        }
        Came in = comes(f, m, k -> true, ways);
        if (in == null) {
            return NONE;
        }
        Came out = comes(to, in.minute, k -> k == in.lift, w -> true);
        return out == null ? NONE : out.minute - m;
    }

    int ride(int f, int to, int m, int what) {
        if (!floor(f) || !floor(to) || !in(m, 0, 999) || !in(what, 0, 1)) {
            return bad();
        }
        return rides(f, to, m, w -> what == 0 || w == (to > f ? 1 : 0));
    }

    int walk(int f, int to, int m, int what) {
        if (!floor(f) || !floor(to) || !in(m, 0, 999) || !in(what, 0, 1)) {
            return bad();
        }
        List<int[]> ways = new ArrayList<>();
        for (int g = 0; g <= s.f; g++) {
            int walk = 2 * Math.abs(g - f);
            int ride = rides(g, to, m + walk, w -> true);
            if (ride != NONE) {
                ways.add(new int[] {walk + ride, walk, g});
            }
        }
        ways.sort(java.util.Arrays::compare);
        return what == 0 ? ways.get(0)[2] : ways.get(0)[0];
    }

    private static int next(Line line, int m) {
        int t = line.at;
        while (t < m) {
            t += line.every;
        }
        return t;
    }

    private int line0(int shift) {
        Line one = new Line(s.lines.get(1).every, (s.lines.get(1).at + shift) % 30);
        int n = 0;
        for (int m = 0; m <= 59; m++) {
            n += next(s.lines.get(0), m) <= next(one, m) ? 1 : 0;
        }
        return n;
    }

    int lines() {
        return fraction(line0(0), 60);
    }

    int even() {
        int best = 0;
        for (int shift = 1; shift <= 29; shift++) {
            if (Math.abs(line0(shift) - 30) < Math.abs(line0(best) - 30)) {
                best = shift;
            }
        }
        return best;
    }

    int note(int lift, int f, int m, int there) {
        if (!isLift(lift) || !floor(f) || !in(m, 0, 99) || !in(there, 0, 1)) {
            return bad();
        }
        if (s.noted.size() == 6) {
            return full();
        }
        s.noted.add(new Noted(lift, f, m, there));
        return s.noted.size();
    }

    int forget() {
        int had = s.noted.size();
        s.noted.clear();
        return had;
    }

    private boolean fits(int lift, Lift as) {
        return s.noted.stream()
                .filter(n -> n.lift == lift)
                .allMatch(n -> (as.floor(s.f, n.minute) == n.floor ? 1 : 0) == n.there);
    }

    private List<Integer> kindsOf(int lift) {
        List<Integer> kinds = new ArrayList<>();
        for (int kind = 0; kind <= 5; kind++) {
            if (fits(lift, new Lift(kind, s.lifts.get(lift).start))) {
                kinds.add(kind);
            }
        }
        return kinds;
    }

    int is(int lift, int what) {
        if (!isLift(lift) || !in(what, 0, 1)) {
            return bad();
        }
        if (what == 0) {
            return kindsOf(lift).stream().mapToInt(k -> 1 << k).sum();
        }
        int n = 0;
        for (int start = 0; start <= 99; start++) {
            n += fits(lift, new Lift(s.lifts.get(lift).kind, start)) ? 1 : 0;
        }
        return n;
    }

    int look(int lift, int f) {
        if (!isLift(lift) || !floor(f)) {
            return bad();
        }
        List<Integer> kinds = kindsOf(lift);
        int start = s.lifts.get(lift).start;
        int best = NONE;
        int least = Integer.MAX_VALUE;
        for (int m = 0; m <= 30 && !kinds.isEmpty(); m++) {
            int minute = m;
            int there = (int) kinds.stream()
                    .filter(k -> new Lift(k, start).floor(s.f, minute) == f).count();
            int greater = Math.max(there, kinds.size() - there);
            if (greater < least) {
                least = greater;
                best = m;
            }
        }
        return best;
    }

    int porters(int f, int m, int n, int c) {
        if (!floor(f) || !in(m, 0, 999) || !in(n, 0, 200) || !in(c, 0, 10)) {
            return bad();
        }
        // Every way in which lifts can be taken, in parts of 10 to the number of lifts.
        int lifts = s.lifts.size();
        long sum = 0;
        long all = 1;
        for (int k = 0; k < lifts; k++) {
            all *= 10;
        }
        for (int taken = 0; taken < 1 << lifts; taken++) {
            long weight = 1;
            for (int k = 0; k < lifts; k++) {
                weight *= (taken >> k & 1) == 1 ? c : 10 - c;
            }
            int gone = taken;
            Came came = comes(f, m, k -> (gone >> k & 1) == 0, w -> true);
            if (came != null && came.minute - m <= n) {
                sum += weight;
            }
        }
        return fraction(sum, all);
    }

    int days(int f, int seed, int n) {
        if (!floor(f) || !in(seed, 0, 999999) || !in(n, 0, 60)) {
            return bad();
        }
        java.math.BigInteger x = java.math.BigInteger.valueOf(seed);
        int ups = 0;
        for (int day = 0; day < n; day++) {
            x = x.multiply(java.math.BigInteger.valueOf(1103515245)).add(java.math.BigInteger.valueOf(12345))
                    .mod(java.math.BigInteger.valueOf(2147483648L));
            int m = x.divide(java.math.BigInteger.valueOf(65536)).intValueExact() % 120;
            Came c = comes(f, m);
            ups += c != null && s.lifts.get(c.lift).way(s.f, c.minute) == 1 ? 1 : 0;
        }
        return ups;
    }

    long part(int what) {
        return what == 0 ? above : what == 1 ? below : bad();
    }

    int image(int i) {
        if (!in(i, 0, 1)) {
            return bad();
        }
        images[i] = s.copy();
        return 1;
    }

    int from(int i) {
        if (!in(i, 0, 1)) {
            return bad();
        }
        if (images[i] == null) {
            return no();
        }
        s = images[i].copy();
        return 1;
    }

    int status(int what) {
        if (!in(what, 0, 2)) {
            bad();
            return -1;
        }
        return new int[] {bads, nos, fulls}[what];
    }

    int count(int what) {
        if (!in(what, 0, 5)) {
            return bad();
        }
        return new int[] {
            s.lifts.size(), s.f, s.minute, s.noted.size(), s.undo.size(), text.length()
        }[what];
    }

    long digest() {
        List<Long> v = new ArrayList<>();
        for (int what = 0; what <= 5; what++) {
            v.add((long) count(what));
        }
        for (Lift l : s.lifts) {
            v.add((long) l.kind);
            v.add((long) l.start);
        }
        for (Line l : s.lines) {
            v.add((long) l.every);
            v.add((long) l.at);
        }
        for (Noted n : s.noted) {
            v.add((long) n.lift);
            v.add((long) n.floor);
            v.add((long) n.minute);
            v.add((long) n.there);
        }
        v.add(above);
        v.add(below);
        long h = 1123;
        for (long x : v) {
            h = 31 * h + x;
        }
        return h;
    }
}
