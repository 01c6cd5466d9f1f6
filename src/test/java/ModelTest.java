import java.util.Random;

/** Runs of calls drawn by fixed seeds, each answer held against the Model's. */
public final class ModelTest {
    private static final int RUNS = 1000;
    private static final int GROUPS = 32;
    private static final int CALLS = 512;
    private static final int[] FAR = {
        Integer.MIN_VALUE, Integer.MIN_VALUE + 1, -1000000, -1, Integer.MAX_VALUE - 1, Integer.MAX_VALUE
    };
    private static final String[] PIECES = {
        "house", "lift", "line", "lifts", "x", ";", ";;", " ", "0", "1", "00", "011", "100", "30", "31",
        "99", "12", "A", "\t", "-", "~"
    };

    private final Check c;
    private final Random r;
    private final WrongWay x = new WrongWay();
    private final Model y = new Model();
    private int calls;

    private ModelTest(Check c, long seed) {
        this.c = c;
        this.r = new Random(seed);
    }

    public static void main(String[] args) {
        Check c = new Check();
        for (int seed = 0; seed < RUNS && c.wrong() == 0; seed++) {
            c.about("run by seed " + seed);
            new ModelTest(c, seed).run(seed % 2 == 0);
        }
        c.end();
    }

    /** Every second run leaves out some of the calls, so that what they would undo goes on for long. */
    private void run(boolean all) {
        boolean[] left = new boolean[GROUPS];
        for (int which = 0; which < GROUPS && !all; which++) {
            left[which] = r.nextInt(3) == 0;
        }
        int readsOneOf = all ? 100 : 10 + r.nextInt(400);
        while (calls < CALLS && c.wrong() == 0) {
            int which = r.nextInt(GROUPS);
            if (r.nextInt(readsOneOf) == 0) {
                readText();
            } else if (!left[which]) {
                callOne(which);
            } else {
                same("count 2", x.count(2), y.count(2));
            }
        }
        c.due("calls of a run", calls, CALLS);
    }

    /** An object is good for 512 calls: what is behind them is not asked for. */
    private void same(String call, long got, long due) {
        if (calls < CALLS) {
            calls++;
            c.due("call " + calls + " " + call, got, due);
        }
        if (calls % 7 == 0 && calls < CALLS) {
            calls++;
            c.due("call " + calls + " digest", x.digest(), y.digest());
        }
    }

    /** Mostly a number as told, at times one next to the bounds or far off. */
    private int n(int least, int most) {
        int kind = r.nextInt(60);
        if (kind == 0) {
            return FAR[r.nextInt(FAR.length)];
        }
        if (kind == 1) {
            return r.nextBoolean() ? least - 1 : most + 1;
        }
        if (kind < 10) {
            return r.nextBoolean() ? least : most;
        }
        return least + r.nextInt(most - least + 1);
    }

    private int floor() {
        return n(0, y.count(1));
    }

    private int lift() {
        return n(0, Math.max(0, y.count(0) - 1));
    }

    private void callOne(int which) {
        if (which < 8) {
            changes(which);
        } else if (which < 20) {
            comesFirst(which);
        } else {
            others(which);
        }
    }

    private void changes(int which) {
        int a;
        int b;
        int d;
        switch (which) {
            case 0 -> {
                if (r.nextInt(8) == 0) {
                    a = n(1, 11);
                    same("house " + a, x.house(a), y.house(a));
                }
            }
            case 1, 2 -> {
                a = n(0, 5);
                b = n(0, 99);
                same("lift " + a + " " + b, x.lift(a, b), y.lift(a, b));
            }
            case 3 -> {
                a = n(0, 1);
                b = n(1, 30);
                d = n(0, 29);
                same("line " + a + " " + b + " " + d, x.line(a, b, d), y.line(a, b, d));
            }
            case 4, 5 -> {
                a = n(1, 99);
                same("passes " + a, x.passes(a), y.passes(a));
            }
            default -> same("undo", x.undo(), y.undo());
        }
    }

    private void comesFirst(int which) {
        int f = floor();
        int to = floor();
        int m = n(0, 999);
        int what = n(0, 1);
        String all = " " + f + " " + to + " " + m + " " + what;
        switch (which) {
            case 8, 9 -> {
                int w = n(0, 2);
                same("first" + all + " " + w, x.first(f, m, w), y.first(f, m, w));
            }
            case 10, 11 -> same("often" + all, x.often(f, what), y.often(f, what));
            case 12, 13 -> same("own" + all, x.own(f, what), y.own(f, what));
            case 14, 15 -> same("ride" + all, x.ride(f, to, m, what), y.ride(f, to, m, what));
            case 16, 17 -> same("walk" + all, x.walk(f, to, m, what), y.walk(f, to, m, what));
            case 18 -> same("lines", x.lines(), y.lines());
            default -> same("even", x.even(), y.even());
        }
    }

    private void others(int which) {
        int k = lift();
        int f = floor();
        int what = n(0, 1);
        String all = " " + k + " " + f + " " + what;
        switch (which) {
            case 20, 21 -> {
                int m = n(0, 99);
                int at = x.where(k, m);
                same("where" + all + " " + m, at, y.where(k, m));
                // Half of what is noted is so, that some kinds go on fitting.
                int there = r.nextBoolean() ? what : at == f ? 1 : 0;
                same("note" + all + " " + m + " " + there, x.note(k, f, m, there), y.note(k, f, m, there));
            }
            case 22 -> {
                if (r.nextInt(4) == 0) {
                    same("forget", x.forget(), y.forget());
                }
            }
            case 23 -> same("is" + all, x.is(k, what), y.is(k, what));
            case 24 -> same("look" + all, x.look(k, f), y.look(k, f));
            case 25 -> {
                int m = n(0, 999);
                int n = n(0, r.nextBoolean() ? 200 : 12);
                int d = n(0, 10);
                same("porters" + all, x.porters(f, m, n, d), y.porters(f, m, n, d));
            }
            case 26 -> {
                int seed = n(0, 999999);
                int n = n(0, 60);
                same("days" + all, x.days(f, seed, n), y.days(f, seed, n));
            }
            case 27 -> same("part " + what, x.part(what), y.part(what));
            case 28 -> same("image " + what, x.image(what), y.image(what));
            case 29 -> same("from " + what, x.from(what), y.from(what));
            case 30 -> {
                int s = n(0, 2);
                same("status " + s, x.status(s), y.status(s));
                int o = n(0, 5);
                same("of " + k + " " + o, x.of(k, o), y.of(k, o));
            }
            default -> {
                int s = n(0, 5);
                same("count " + s, x.count(s), y.count(s));
                int m = n(0, 999);
                same("where " + k + " " + m, x.where(k, m), y.where(k, m));
            }
        }
    }

    private void readText() {
        String text = r.nextInt(4) == 0 ? anyText() : houseText();
        if (text.length() > 150 && r.nextBoolean()) {
            text = text.substring(0, 150);
        }
        same("clear", x.clear(), y.clear());
        for (int i = 0; i < text.length() && calls < CALLS; i++) {
            int sign = r.nextInt(200) == 0 ? FAR[r.nextInt(FAR.length)] : text.charAt(i);
            same("type " + sign, x.type(sign), y.type(sign));
        }
        same("read of " + text, x.read(), y.read());
    }

    private String anyText() {
        StringBuilder b = new StringBuilder(r.nextBoolean() ? "house 5;" : "");
        for (int i = r.nextInt(20); i > 0; i--) {
            b.append(PIECES[r.nextInt(PIECES.length)]);
            b.append(r.nextBoolean() ? " " : "");
        }
        return b.toString();
    }

    private String houseText() {
        StringBuilder b = new StringBuilder("house " + (1 + r.nextInt(11)) + ";");
        for (int i = r.nextInt(7); i > 0; i--) {
            if (r.nextBoolean()) {
                b.append("lift ").append(r.nextInt(6)).append(' ').append(r.nextInt(100)).append(';');
            } else {
                b.append("line ").append(r.nextInt(2)).append(' ').append(1 + r.nextInt(30)).append(' ')
                        .append(r.nextInt(30)).append(" ;");
            }
        }
        for (int i = r.nextInt(3); i > 0; i--) {
            int at = r.nextInt(b.length());
            switch (r.nextInt(3)) {
                case 0 -> b.deleteCharAt(at);
                case 1 -> b.insert(at, PIECES[r.nextInt(PIECES.length)]);
                default -> b.setCharAt(at, (char) r.nextInt(128));
            }
            if (b.length() == 0) {
                return "";
            }
        }
        return b.toString();
    }
}
