import java.util.function.Supplier;

/**
 * "Refused, changing nothing but STATUS, the first of: BAD, NO, FULL": each number's least and greatest
 * and those next to them, each refusal with its answer, with STATUS, with all else as it was.
 *
 * <p>Each refused call is made on one of two objects that are made alike; all that both answer afterwards
 * is held together.
 */
public final class RefusalsTest {
    private static final Check C = new Check();
    private static final int[] FAR = {Integer.MIN_VALUE, -1000000000, 1000000000, Integer.MAX_VALUE};
    private static final int BAD = 0;
    private static final int NO = 1;
    private static final int FULL = 2;

    private interface Call {
        long on(WrongWay x, int[] n);
    }

    /** A call of the face with its numbers' least and greatest. */
    private record Told(String name, Call call, int answer, int[]... ranges) {}

    public static void main(String[] args) {
        for (Told told : inHouse(11, 4)) {
            numbersNextToTheBounds(Made::full, told);
        }
        for (Told told : inHouse(5, 2)) {
            numbersNextToTheBounds(Made::furnished, told);
            numbersAtTheBounds(Made::furnished, told);
        }
        for (Told told : inHouse(1, 1)) {
            numbersNextToTheBounds(() -> Made.house(1, 5, 99), told);
            numbersAtTheBounds(() -> Made.house(1, 5, 99), told);
        }
        for (Told told : withoutLift(11)) {
            numbersNextToTheBounds(WrongWay::new, told);
            numbersAtTheBounds(WrongWay::new, told);
        }
        liftsThereAreNot();
        no();
        full();
        badIsAheadOfNo();
        badIsAheadOfFull();
        badIsAheadOfNone();
        badIsCountedOnce();
        noneIsNotRefused();
        C.end();
    }

    private static int[] of(int least, int greatest) {
        return new int[] {least, greatest};
    }

    private static Told[] withoutLift(int f) {
        int bad = WrongWay.BAD;
        int[] floor = of(0, f);
        int[] minute = of(0, 999);
        int[] one = of(0, 1);
        return new Told[] {
            new Told("house", (x, n) -> x.house(n[0]), bad, of(1, 11)),
            new Told("lift", (x, n) -> x.lift(n[0], n[1]), bad, of(0, 5), of(0, 99)),
            new Told("line", (x, n) -> x.line(n[0], n[1], n[2]), bad, one, of(1, 30), of(0, 29)),
            new Told("type", (x, n) -> x.type(n[0]), bad, of(0, 127)),
            new Told("passes", (x, n) -> x.passes(n[0]), bad, of(1, 99)),
            new Told("first", (x, n) -> x.first(n[0], n[1], n[2]), bad, floor, minute, of(0, 2)),
            new Told("often", (x, n) -> x.often(n[0], n[1]), bad, floor, one),
            new Told("own", (x, n) -> x.own(n[0], n[1]), bad, floor, one),
            new Told("ride", (x, n) -> x.ride(n[0], n[1], n[2], n[3]), bad, floor, floor, minute, one),
            new Told("walk", (x, n) -> x.walk(n[0], n[1], n[2], n[3]), bad, floor, floor, minute, one),
            new Told("porters", (x, n) -> x.porters(n[0], n[1], n[2], n[3]), bad, floor, minute, of(0, 200),
                    of(0, 10)),
            new Told("days", (x, n) -> x.days(n[0], n[1], n[2]), bad, floor, of(0, 999999), of(0, 60)),
            new Told("part", (x, n) -> x.part(n[0]), bad, one),
            new Told("image", (x, n) -> x.image(n[0]), bad, one),
            new Told("from", (x, n) -> x.from(n[0]), bad, one),
            new Told("status", (x, n) -> x.status(n[0]), -1, of(0, 2)),
            new Told("count", (x, n) -> x.count(n[0]), bad, of(0, 5)),
        };
    }

    private static Told[] inHouse(int f, int lifts) {
        int bad = WrongWay.BAD;
        int[] floor = of(0, f);
        int[] lift = of(0, lifts - 1);
        int[] one = of(0, 1);
        Told[] of = {
            new Told("of", (x, n) -> x.of(n[0], n[1]), bad, lift, of(0, 5)),
            new Told("where", (x, n) -> x.where(n[0], n[1]), bad, lift, of(0, 999)),
            new Told("note", (x, n) -> x.note(n[0], n[1], n[2], n[3]), bad, lift, floor, of(0, 99), one),
            new Told("is", (x, n) -> x.is(n[0], n[1]), bad, lift, one),
            new Told("look", (x, n) -> x.look(n[0], n[1]), bad, lift, floor),
        };
        Told[] others = withoutLift(f);
        Told[] all = new Told[of.length + others.length];
        System.arraycopy(of, 0, all, 0, of.length);
        System.arraycopy(others, 0, all, of.length, others.length);
        return all;
    }

    /** One number too small, too large, or far off, the others at every corner of what is told. */
    private static void numbersNextToTheBounds(Supplier<WrongWay> made, Told told) {
        for (int place = 0; place < told.ranges.length; place++) {
            int[] range = told.ranges[place];
            for (int corner = 0; corner < 1 << told.ranges.length; corner++) {
                refusedWith(made, told, corner, place, range[0] - 1);
                refusedWith(made, told, corner, place, range[1] + 1);
            }
            for (int far : FAR) {
                refusedWith(made, told, 0, place, far);
            }
        }
    }

    private static void refusedWith(Supplier<WrongWay> made, Told told, int corner, int place, int number) {
        int[] n = numbers(told, corner);
        n[place] = number;
        refused(made, nameOf(told, n), x -> told.call.on(x, n), told.answer, BAD);
    }

    /** Numbers that are the least or the greatest: none of them is refused as BAD. */
    private static void numbersAtTheBounds(Supplier<WrongWay> made, Told told) {
        for (int corner = 0; corner < 1 << told.ranges.length; corner++) {
            int[] n = numbers(told, corner);
            WrongWay x = made.get();
            int bad = x.status(0);
            long answer = told.call.on(x, n);
            C.about("as told: " + nameOf(told, n));
            C.holds("the answer is not BAD", answer != WrongWay.BAD);
            C.due("status(0)", x.status(0), bad);
        }
    }

    private static int[] numbers(Told told, int corner) {
        int[] n = new int[told.ranges.length];
        for (int i = 0; i < n.length; i++) {
            n[i] = told.ranges[i][corner >> i & 1];
        }
        return n;
    }

    private static String nameOf(Told told, int[] n) {
        StringBuilder b = new StringBuilder(told.name).append('(');
        for (int i = 0; i < n.length; i++) {
            b.append(i == 0 ? "" : ", ").append(n[i]);
        }
        return b.append(')').toString();
    }

    private interface Refused {
        long on(WrongWay x);
    }

    private static void refused(Supplier<WrongWay> made, String name, Refused call, int answer, int reason) {
        C.about("refused: " + name);
        WrongWay x = made.get();
        WrongWay like = made.get();
        C.due("the answer", call.on(x), answer);
        for (int what = 0; what <= 2; what++) {
            C.due("status(" + what + ")", x.status(what), like.status(what) + (what == reason ? 1 : 0));
        }
        C.holds("all else is as it was", Made.allOf(x).equals(Made.allOf(like)));
    }

    private static void liftsThereAreNot() {
        for (int lifts = 0; lifts <= 4; lifts++) {
            int n = lifts;
            Supplier<WrongWay> made = () -> withLifts(n);
            WrongWay x = made.get();
            C.about("lifts " + n);
            for (int lift = 0; lift < n; lift++) {
                C.due("kind of " + lift, x.of(lift, 0), lift);
            }
            C.due("none is refused", x.status(0), 0);
            refused(made, "of(" + n + ", 0)", y -> y.of(n, 0), WrongWay.BAD, BAD);
            refused(made, "where(" + n + ", 0)", y -> y.where(n, 0), WrongWay.BAD, BAD);
            refused(made, "note(" + n + ", 0, 0, 0)", y -> y.note(n, 0, 0, 0), WrongWay.BAD, BAD);
            refused(made, "is(" + n + ", 0)", y -> y.is(n, 0), WrongWay.BAD, BAD);
            refused(made, "look(" + n + ", 0)", y -> y.look(n, 0), WrongWay.BAD, BAD);
            refused(made, "of(-1, 0)", y -> y.of(-1, 0), WrongWay.BAD, BAD);
        }
        // A lift of a house that is gone is none.
        Supplier<WrongWay> gone = () -> {
            WrongWay x = withLifts(3);
            x.house(4);
            x.lift(0, 0);
            return x;
        };
        refused(gone, "of(1, 0)", y -> y.of(1, 0), WrongWay.BAD, BAD);
        refused(gone, "note(2, 0, 0, 0)", y -> y.note(2, 0, 0, 0), WrongWay.BAD, BAD);
    }

    private static WrongWay withLifts(int n) {
        WrongWay x = new WrongWay();
        for (int kind = 0; kind < n; kind++) {
            x.lift(kind, 10 * kind);
        }
        return x;
    }

    private static void no() {
        refused(WrongWay::new, "undo() at first", WrongWay::undo, WrongWay.NO, NO);
        refused(() -> Made.house(5, 0, 0), "undo() behind a lift", WrongWay::undo, WrongWay.NO, NO);
        for (int i = 0; i <= 1; i++) {
            int n = i;
            refused(WrongWay::new, "from(" + n + ") at first", x -> x.from(n), WrongWay.NO, NO);
            refused(() -> Made.house(5, 0, 0), "from(" + n + ")", x -> x.from(n), WrongWay.NO, NO);
        }
        refused(Made::furnished, "from(1), image 0 being kept", x -> x.from(1), WrongWay.NO, NO);
        for (int what = 0; what <= 1; what++) {
            int n = what;
            refused(WrongWay::new, "often(0, " + n + ") without lifts", x -> x.often(0, n), WrongWay.NO, NO);
            refused(WrongWay::new, "own(11, " + n + ") without lifts", x -> x.own(11, n), WrongWay.NO, NO);
            refused(withFraction(5, 3, 0), "often(2, " + n + ") of ODD", x -> x.often(2, n), WrongWay.NO, NO);
            refused(withFraction(5, 5, 0), "often(1, " + n + ") of EXPRESS", x -> x.often(1, n), WrongWay.NO, NO);
            refused(withFraction(5, 5, 0), "own(4, " + n + ") of EXPRESS", x -> x.own(4, n), WrongWay.NO, NO);
            refused(withFraction(4, 1, 0), "often(3, " + n + ") of QUICK", x -> x.often(3, n), WrongWay.NO, NO);
        }
        refused(withFraction(5, 0, 0), "own(0, 0)", x -> x.own(0, 0), WrongWay.NO, NO);
        refused(withFraction(5, 4, 9), "own(5, 1)", x -> x.own(5, 1), WrongWay.NO, NO);
        refused(withFraction(1, 1, 0), "own(0, 1)", x -> x.own(0, 1), WrongWay.NO, NO);
    }

    /** One lift, and a fraction that a call which is refused must leave. */
    private static Supplier<WrongWay> withFraction(int f, int kind, int start) {
        return () -> {
            WrongWay x = Made.house(f, kind, start);
            x.porters(0, 0, 200, 3);
            x.passes(3);
            return x;
        };
    }

    private static void full() {
        refused(Made::full, "a fifth lift", x -> x.lift(0, 0), WrongWay.FULL, FULL);
        refused(Made::full, "a fifth lift, its numbers the greatest", x -> x.lift(5, 99), WrongWay.FULL, FULL);
        refused(Made::full, "byte 151", x -> x.type(0), WrongWay.FULL, FULL);
        refused(Made::full, "byte 151 being 127", x -> x.type(127), WrongWay.FULL, FULL);
        refused(Made::full, "a seventh note", x -> x.note(0, 0, 0, 0), WrongWay.FULL, FULL);
        refused(Made::full, "a seventh note, the greatest", x -> x.note(3, 11, 99, 1), WrongWay.FULL, FULL);
    }

    private static void badIsAheadOfNo() {
        refused(WrongWay::new, "often(12, 0), none", x -> x.often(12, 0), WrongWay.BAD, BAD);
        refused(WrongWay::new, "often(-1, 1), none", x -> x.often(-1, 1), WrongWay.BAD, BAD);
        refused(WrongWay::new, "often(0, 2), none", x -> x.often(0, 2), WrongWay.BAD, BAD);
        refused(WrongWay::new, "often(0, -1), none", x -> x.often(0, -1), WrongWay.BAD, BAD);
        refused(WrongWay::new, "own(12, 0), none", x -> x.own(12, 0), WrongWay.BAD, BAD);
        refused(WrongWay::new, "own(-1, 1), none", x -> x.own(-1, 1), WrongWay.BAD, BAD);
        refused(WrongWay::new, "own(0, 2), none", x -> x.own(0, 2), WrongWay.BAD, BAD);
        refused(WrongWay::new, "own(0, -1), none", x -> x.own(0, -1), WrongWay.BAD, BAD);
        refused(WrongWay::new, "from(2), none kept", x -> x.from(2), WrongWay.BAD, BAD);
        refused(WrongWay::new, "from(-1), none kept", x -> x.from(-1), WrongWay.BAD, BAD);
    }

    private static void badIsAheadOfFull() {
        refused(Made::full, "a fifth lift of kind 6", x -> x.lift(6, 0), WrongWay.BAD, BAD);
        refused(Made::full, "a fifth lift of kind -1", x -> x.lift(-1, 0), WrongWay.BAD, BAD);
        refused(Made::full, "a fifth lift of start 100", x -> x.lift(0, 100), WrongWay.BAD, BAD);
        refused(Made::full, "a fifth lift of start -1", x -> x.lift(0, -1), WrongWay.BAD, BAD);
        refused(Made::full, "byte 151 being 128", x -> x.type(128), WrongWay.BAD, BAD);
        refused(Made::full, "byte 151 being -1", x -> x.type(-1), WrongWay.BAD, BAD);
        refused(Made::full, "a seventh note of lift 4", x -> x.note(4, 0, 0, 0), WrongWay.BAD, BAD);
        refused(Made::full, "a seventh note of lift -1", x -> x.note(-1, 0, 0, 0), WrongWay.BAD, BAD);
        refused(Made::full, "a seventh note on floor 12", x -> x.note(0, 12, 0, 0), WrongWay.BAD, BAD);
        refused(Made::full, "a seventh note on floor -1", x -> x.note(0, -1, 0, 0), WrongWay.BAD, BAD);
        refused(Made::full, "a seventh note in minute 100", x -> x.note(0, 0, 100, 0), WrongWay.BAD, BAD);
        refused(Made::full, "a seventh note in minute -1", x -> x.note(0, 0, -1, 0), WrongWay.BAD, BAD);
        refused(Made::full, "a seventh note, there 2", x -> x.note(0, 0, 0, 2), WrongWay.BAD, BAD);
        refused(Made::full, "a seventh note, there -1", x -> x.note(0, 0, 0, -1), WrongWay.BAD, BAD);
    }

    private static void badIsAheadOfNone() {
        refused(WrongWay::new, "first(12, 0, 0), none", x -> x.first(12, 0, 0), WrongWay.BAD, BAD);
        refused(WrongWay::new, "first(0, 1000, 0), none", x -> x.first(0, 1000, 0), WrongWay.BAD, BAD);
        refused(WrongWay::new, "first(0, 0, 3), none", x -> x.first(0, 0, 3), WrongWay.BAD, BAD);
        refused(WrongWay::new, "ride(0, 1, 0, 2), none", x -> x.ride(0, 1, 0, 2), WrongWay.BAD, BAD);
        refused(WrongWay::new, "ride(0, 1, 1000, 0), none", x -> x.ride(0, 1, 1000, 0), WrongWay.BAD, BAD);
        // The same floor is 0 minutes, but not if there is no such floor.
        refused(WrongWay::new, "ride(12, 12, 0, 0)", x -> x.ride(12, 12, 0, 0), WrongWay.BAD, BAD);
        refused(WrongWay::new, "walk(12, 12, 0, 0)", x -> x.walk(12, 12, 0, 0), WrongWay.BAD, BAD);
        refused(WrongWay::new, "ride(-1, -1, 0, 1)", x -> x.ride(-1, -1, 0, 1), WrongWay.BAD, BAD);
        Supplier<WrongWay> ofNoKind = () -> {
            WrongWay x = Made.house(5, 0, 0);
            x.note(0, 0, 0, 0);
            return x;
        };
        C.about("no kind");
        C.due("look(0, 5)", ofNoKind.get().look(0, 5), WrongWay.NONE);
        refused(ofNoKind, "look(0, 6), no kind", x -> x.look(0, 6), WrongWay.BAD, BAD);
        refused(ofNoKind, "look(1, 0), no kind", x -> x.look(1, 0), WrongWay.BAD, BAD);
    }

    /** A call with several numbers that are not as told is one call that was refused. */
    private static void badIsCountedOnce() {
        for (Told told : inHouse(5, 2)) {
            int[] n = numbers(told, 0);
            int[] m = numbers(told, (1 << n.length) - 1);
            for (int i = 0; i < n.length; i++) {
                n[i] -= 1;
                m[i] += 1;
            }
            refused(Made::furnished, nameOf(told, n), x -> told.call.on(x, n), told.answer, BAD);
            refused(Made::furnished, nameOf(told, m), x -> told.call.on(x, m), told.answer, BAD);
        }
    }

    private static void noneIsNotRefused() {
        C.about("NONE is no refusal");
        WrongWay x = new WrongWay();
        for (int what = 0; what <= 2; what++) {
            C.due("first", x.first(0, 0, what), WrongWay.NONE);
        }
        C.due("ride", x.ride(0, 1, 0, 0), WrongWay.NONE);
        C.due("by the right", x.ride(1, 0, 999, 1), WrongWay.NONE);
        x.lift(0, 0);
        x.note(0, 0, 0, 0);
        C.due("look", x.look(0, 0), WrongWay.NONE);
        for (int what = 0; what <= 2; what++) {
            C.due("status(" + what + ")", x.status(what), 0);
        }
    }
}
