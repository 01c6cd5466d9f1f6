/** Each promise by answers worked out by hand: ordinary inputs, edges, wrong inputs. */
public final class PromisesTest {
    private static final Check C = new Check();
    private static final int[] ODD_NUMBERS = {-1, Integer.MIN_VALUE, Integer.MAX_VALUE};

    public static void main(String[] args) {
        newObject();
        house();
        lift();
        line();
        typeAndClear();
        readHouse();
        readFaults();
        passesAndUndo();
        ofLift();
        kinds();
        where();
        first();
        often();
        own();
        ride();
        walk();
        lines();
        even();
        noteAndForget();
        isAndLook();
        porters();
        days();
        part();
        images();
        status();
        count();
        digest();
        refusalsChangeNothing();
        C.end();
    }

    private static WrongWay plain(int f, int start) {
        WrongWay x = new WrongWay();
        C.due("house", x.house(f), 0);
        C.due("lift", x.lift(0, start), 0);
        return x;
    }

    private static void typed(WrongWay x, String text) {
        x.clear();
        for (int i = 0; i < text.length(); i++) {
            C.due("type", x.type(text.charAt(i)), i + 1);
        }
    }

    private static void fraction(String call, WrongWay x, int answer, long above, long below) {
        C.due(call, answer, 1);
        C.due(call + " above", x.part(0), above);
        C.due(call + " below", x.part(1), below);
    }

    private static void counts(WrongWay x, int... want) {
        for (int what = 0; what < want.length; what++) {
            C.due("count(" + what + ")", x.count(what), want[what]);
        }
    }

    private static void statuses(WrongWay x, int bad, int no, int full) {
        C.due("status(0)", x.status(0), bad);
        C.due("status(1)", x.status(1), no);
        C.due("status(2)", x.status(2), full);
    }

    private static long hash(long... values) {
        long h = 1123;
        for (long v : values) {
            h = 31 * h + v;
        }
        return h;
    }

    private static void newObject() {
        C.about("promise 1");
        WrongWay x = new WrongWay();
        counts(x, 0, 11, 0, 0, 0, 0);
        statuses(x, 0, 0, 0);
        C.due("part(0)", x.part(0), 0);
        C.due("part(1)", x.part(1), 1);
        C.due("digest", x.digest(), hash(0, 11, 0, 0, 0, 0, 10, 0, 10, 0, 0, 1));
        C.due("from(0)", x.from(0), WrongWay.NO);
        C.due("from(1)", x.from(1), WrongWay.NO);
        C.due("line 0 had", x.line(0, 10, 0), 1000);
        C.due("line 1 had", x.line(1, 10, 0), 1000);
    }

    private static void house() {
        C.about("promise 2");
        WrongWay x = plain(4, 7);
        x.lift(5, 0);
        x.line(0, 3, 4);
        x.line(1, 5, 6);
        x.passes(9);
        x.note(0, 1, 2, 1);
        x.type('h');
        x.lines();
        long above = x.part(0);
        long below = x.part(1);
        x.image(1);
        x.of(9, 9);
        C.due("house(1)", x.house(1), 2);
        counts(x, 0, 1, 0, 0, 0, 1);
        C.due("above stays", x.part(0), above);
        C.due("below stays", x.part(1), below);
        statuses(x, 1, 0, 0);
        C.due("digest", x.digest(), hash(0, 1, 0, 0, 0, 1, 10, 0, 10, 0, above, below));
        C.due("from(1)", x.from(1), 1);
        counts(x, 2, 4, 9, 1, 1, 1);
        C.due("house(11)", x.house(11), 2);
        C.due("house(12)", x.house(12), WrongWay.BAD);
        C.due("house(0)", x.house(0), WrongWay.BAD);
        for (int n : ODD_NUMBERS) {
            C.due("house " + n, x.house(n), WrongWay.BAD);
        }
        counts(x, 0, 11, 0, 0, 0, 1);
        statuses(x, 6, 0, 0);
    }

    private static void lift() {
        C.about("promise 3");
        WrongWay x = new WrongWay();
        x.passes(5);
        C.due("lift(6, 0)", x.lift(6, 0), WrongWay.BAD);
        C.due("lift(0, 100)", x.lift(0, 100), WrongWay.BAD);
        for (int n : ODD_NUMBERS) {
            C.due("kind " + n, x.lift(n, 0), WrongWay.BAD);
            C.due("start " + n, x.lift(0, n), WrongWay.BAD);
        }
        C.due("a refused lift leaves what may be undone", x.count(4), 1);
        C.due("lift(0, 0)", x.lift(0, 0), 0);
        C.due("behind a lift none may be undone", x.count(4), 0);
        C.due("the minute stays", x.count(2), 5);
        C.due("lift(5, 99)", x.lift(5, 99), 1);
        C.due("lift(4, 1)", x.lift(4, 1), 2);
        C.due("lift(3, 2)", x.lift(3, 2), 3);
        C.due("a fifth", x.lift(3, 2), WrongWay.FULL);
        C.due("BAD is ahead of FULL", x.lift(6, 2), WrongWay.BAD);
        statuses(x, 9, 0, 1);
        C.due("kind of 1", x.of(1, 0), 5);
        C.due("start of 1", x.of(1, 1), 99);
        counts(x, 4, 11, 5, 0, 0, 0);
    }

    private static void line() {
        C.about("promise 4");
        WrongWay x = new WrongWay();
        C.due("line(0, 30, 29)", x.line(0, 30, 29), 1000);
        C.due("line(0, 1, 0)", x.line(0, 1, 0), 3029);
        C.due("line(1, 7, 8)", x.line(1, 7, 8), 1000);
        C.due("line(0, 2, 3)", x.line(0, 2, 3), 100);
        C.due("line(1, 7, 8) again", x.line(1, 7, 8), 708);
        int[][] bad = {{2, 1, 0}, {0, 0, 0}, {0, 31, 0}, {0, 1, 30}, {1, 31, 29}, {1, 30, 30}};
        for (int[] b : bad) {
            C.due("a bad line", x.line(b[0], b[1], b[2]), WrongWay.BAD);
        }
        for (int n : ODD_NUMBERS) {
            C.due("a " + n, x.line(n, 1, 0), WrongWay.BAD);
            C.due("every " + n, x.line(0, n, 0), WrongWay.BAD);
            C.due("at " + n, x.line(0, 1, n), WrongWay.BAD);
        }
        statuses(x, 15, 0, 0);
        C.due("line 0 stays", x.line(0, 2, 3), 203);
    }

    private static void typeAndClear() {
        C.about("promises 5, 6");
        WrongWay x = new WrongWay();
        C.due("clear()", x.clear(), 0);
        C.due("type(128)", x.type(128), WrongWay.BAD);
        for (int n : ODD_NUMBERS) {
            C.due("type " + n, x.type(n), WrongWay.BAD);
        }
        for (int i = 1; i <= 150; i++) {
            C.due("type", x.type(i % 2 == 0 ? 0 : 127), i);
        }
        C.due("the 151st", x.type(32), WrongWay.FULL);
        C.due("BAD is ahead of FULL", x.type(128), WrongWay.BAD);
        statuses(x, 5, 0, 1);
        C.due("count(5)", x.count(5), 150);
        C.due("clear()", x.clear(), 150);
        C.due("clear() again", x.clear(), 0);
        C.due("type(59)", x.type(59), 1);
    }

    private static void readHouse() {
        C.about("promise 7");
        WrongWay x = plain(11, 3);
        x.line(1, 5, 5);
        x.passes(30);
        x.note(0, 0, 0, 1);
        x.image(0);
        x.lines();
        long above = x.part(0);
        long below = x.part(1);
        typed(x, "house 3;lift 4 09; lift 0 99 ;line 0 30 29;");
        C.due("read()", x.read(), 4);
        counts(x, 2, 3, 0, 0, 0, 43);
        C.due("digest", x.digest(),
                hash(2, 3, 0, 0, 0, 43, 4, 9, 0, 99, 30, 29, 10, 0, above, below));
        C.due("it may be read again", x.read(), 4);
        statuses(x, 0, 0, 0);
        C.due("the image stays", x.from(0), 1);
        counts(x, 1, 11, 30, 1, 1, 43);
        reads("house 11;", 1);
        reads("  house   01  ;  ", 1);
        reads("house5;lift0 1;", 2);
        reads("house 5;line 0 1 0;line 0 30 29;line 1 2 3;", 4);
        reads("house 1;lift 0 0;lift 1 1;lift 2 2;lift 5 99;line 1 9 9;", 6);
        WrongWay y = new WrongWay();
        typed(y, "house 5;line 0 1 2;line 0 3 4;line 1 6 7;");
        C.due("read()", y.read(), 4);
        C.due("the later line holds", y.line(0, 1, 0), 304);
        C.due("line 1 as told", y.line(1, 1, 0), 607);
    }

    private static void reads(String text, int items) {
        WrongWay x = new WrongWay();
        typed(x, text);
        C.due("read of " + text, x.read(), items);
        statuses(x, 0, 0, 0);
    }

    private static void readFaults() {
        C.about("promise 7, faults");
        fault("", 0);
        fault("   ", 3);
        fault("house", 5);
        fault("house ", 6);
        fault("house 1", 7);
        fault("house 1;lift", 12);
        fault("house 1;lift 0 0", 16);
        fault("house 1;line 0 1 0 ", 19);
        fault("hous 1;", 0);
        fault("mouse 1;", 0);
        fault("housa 1;", 0);
        fault("houses 1;", 0);
        fault(" House 1;", 1);
        fault("houSe 1;", 0);
        fault("houseX 1;", 5);
        fault("lift 0 0;house 1;", 0);
        fault(" ;house 1;", 1);
        fault("5 house 1;", 0);
        fault("house house 1;", 6);
        fault("house 0;", 6);
        fault("house 00;", 6);
        fault("house 12;", 6);
        fault("house 011;", 6);
        fault("house  100;", 7);
        fault("house 1 1;", 8);
        fault("house 1;;", 8);
        fault("house 1;house 1;", 8);
        fault("house 1; lif 0 0;", 9);
        fault("house 1;lifta 0 0;", 8);
        fault("house 1;liftz 0 0;", 8);
        fault("house 5;lift lift 0;", 13);
        fault("house 5;lift ; 0;", 13);
        fault("house 1;lift 6 0;", 13);
        fault("house 1;lift 5 100;", 15);
        fault("house 1;lift 5 001;", 15);
        fault("house 1;lift 5;", 14);
        fault("house 1;lift 5 5 5;", 17);
        fault("house 1;line 2 1 0;", 13);
        fault("house 1;line 0 0 0;", 15);
        fault("house 1;line 0 31 0;", 15);
        fault("house 1;line 0 1 30;", 17);
        fault("house 1;line 0 1;", 16);
        fault("house 1;line 0 1 0 lift", 19);
        fault("house\t1;", 5);
        fault("house -1;", 6);
        fault("house 1:", 7);
        fault("house 1;lift 0 0;lift 0 0;lift 0 0;lift 0 0;lift", 44);
        fault("house 1;lift 0 0;lift 0 0;lift 0 0;lift 0 0; lift 9 0;", 45);
        fault("house 1;" + (char) 0, 8);
        fault("house 1;" + (char) 127, 8);
        fault("house 1;\n", 8);
        fault("house 1;x", 8);
        fault("house 1;" + "9".repeat(142), 8);
        fault("house 1;lift " + "9".repeat(137), 13);
        fault(" ".repeat(150), 150);
        fault(" ".repeat(145) + "house", 150);
        fault(" ".repeat(144) + "house1", 150);
        WrongWay x = new WrongWay();
        typed(x, "house 11;lift 0 0;");
        typed(x, "house 1");
        C.due("bytes that were cleared are gone", x.read(), -17);
        typed(x, "houses and more");
        typed(x, "house");
        C.due("letters that were cleared are gone", x.read(), -15);
    }

    private static void fault(String text, int place) {
        WrongWay x = plain(7, 5);
        x.line(0, 3, 2);
        x.passes(4);
        x.note(0, 7, 9, 0);
        typed(x, text);
        long before = x.digest();
        C.due("read of " + text, x.read(), -10 - place);
        C.due("all stays at " + text, x.digest(), before);
        statuses(x, 0, 0, 0);
    }

    private static void passesAndUndo() {
        C.about("promises 8, 9");
        WrongWay x = new WrongWay();
        C.due("undo()", x.undo(), WrongWay.NO);
        C.due("passes(0)", x.passes(0), WrongWay.BAD);
        C.due("passes(100)", x.passes(100), WrongWay.BAD);
        for (int n : ODD_NUMBERS) {
            C.due("passes " + n, x.passes(n), WrongWay.BAD);
        }
        C.due("passes(1)", x.passes(1), 1);
        C.due("passes(99)", x.passes(99), 100);
        C.due("count(4)", x.count(4), 2);
        C.due("undo()", x.undo(), 1);
        C.due("undo()", x.undo(), 0);
        C.due("undo()", x.undo(), WrongWay.NO);
        statuses(x, 5, 2, 0);
        for (int i = 1; i <= 9; i++) {
            C.due("passes(10)", x.passes(10), 10 * i);
            C.due("count(4)", x.count(4), Math.min(8, i));
        }
        for (int i = 8; i >= 1; i--) {
            C.due("undo()", x.undo(), 10 * i);
        }
        C.due("undo()", x.undo(), WrongWay.NO);
        C.due("the minute stays", x.count(2), 10);
        for (int i = 0; i < 10; i++) {
            x.passes(98);
        }
        C.due("count(2)", x.count(2), 990);
        C.due("999 at most", x.passes(10), 999);
        C.due("999 still", x.passes(99), 999);
        C.due("undo()", x.undo(), 999);
        C.due("undo()", x.undo(), 990);
        x.line(0, 1, 1);
        C.due("a line leaves what may be undone", x.undo(), 892);
        x.house(3);
        C.due("undo() behind house", x.undo(), WrongWay.NO);
        x.passes(3);
        typed(x, "house 4;");
        C.due("a fault", x.count(4), 1);
        x.read();
        C.due("undo() behind read", x.undo(), WrongWay.NO);
        C.due("the minute behind read", x.count(2), 0);
    }

    private static void ofLift() {
        C.about("promise 10");
        WrongWay x = new WrongWay();
        C.due("no lift", x.of(0, 0), WrongWay.BAD);
        x.lift(3, 10);
        int[] at10 = {3, 10, 22, 10, 1, 0};
        int[] at11 = {3, 10, 22, 11, 0, 1};
        int[] at22 = {3, 10, 22, 0, 1, 1};
        for (int what = 0; what <= 5; what++) {
            C.due("of(0, " + what + ")", x.of(0, what), at10[what]);
        }
        x.passes(1);
        for (int what = 0; what <= 5; what++) {
            C.due("of(0, " + what + ") then", x.of(0, what), at11[what]);
        }
        x.passes(11);
        for (int what = 0; what <= 5; what++) {
            C.due("of(0, " + what + ") below", x.of(0, what), at22[what]);
        }
        C.due("of(0, 6)", x.of(0, 6), WrongWay.BAD);
        C.due("of(1, 0)", x.of(1, 0), WrongWay.BAD);
        for (int n : ODD_NUMBERS) {
            C.due("lift " + n, x.of(n, 0), WrongWay.BAD);
            C.due("what " + n, x.of(0, n), WrongWay.BAD);
        }
        statuses(x, 9, 0, 0);
        WrongWay y = new WrongWay();
        y.house(1);
        y.lift(1, 0);
        C.due("QUICK in a house of two floors never goes", y.of(0, 4), 0);
        C.due("its round", y.of(0, 2), 1);
    }

    /** Floors, ways and doors of each kind place by place, F being 3 and 4. */
    private static void kinds() {
        C.about("promise 10, kinds");
        kind(0, 3, "012321", "111000", "111111");
        kind(1, 3, "022", "100", "111");
        kind(1, 4, "0242", "1100", "1111");
        kind(2, 3, "0123210000", "1110001111", "1111111111");
        kind(3, 3, "012321", "111000", "110101");
        kind(4, 3, "012333210000", "111000001111", "111111111111");
        kind(5, 3, "012321", "111000", "100100");
        kind(5, 4, "01234321", "11110000", "10001000");
        kind(3, 4, "01234321", "11110000", "11010101");
        kind(0, 1, "01", "10", "11");
        kind(1, 1, "0", "0", "1");
        kind(1, 2, "02", "10", "11");
        kind(2, 1, "010000", "101111", "111111");
        kind(4, 1, "01110000", "10001111", "11111111");
    }

    private static void kind(int kind, int f, String floors, String ways, String doors) {
        int round = floors.length();
        for (int start = 0; start <= 99; start++) {
            WrongWay x = new WrongWay();
            x.house(f);
            x.lift(kind, start);
            String name = "kind " + kind + " F " + f + " start " + start;
            C.due(name + " round", x.of(0, 2), round);
            C.due(name + " floor", x.of(0, 3), floors.charAt(start % round) - '0');
            C.due(name + " way", x.of(0, 4), ways.charAt(start % round) - '0');
            C.due(name + " doors", x.of(0, 5), doors.charAt(start % round) - '0');
            C.due(name + " floor in 999", x.where(0, 999), floors.charAt((start + 999) % round) - '0');
        }
    }

    private static void where() {
        C.about("promise 11");
        WrongWay x = plain(11, 99);
        C.due("where(0, 0)", x.where(0, 0), 11);
        C.due("where(0, 1)", x.where(0, 1), 10);
        C.due("where(0, 11)", x.where(0, 11), 0);
        C.due("where(0, 999)", x.where(0, 999), 2);
        x.passes(50);
        C.due("the minute is as asked, not from now", x.where(0, 0), 11);
        C.due("where(0, 1000)", x.where(0, 1000), WrongWay.BAD);
        C.due("where(1, 0)", x.where(1, 0), WrongWay.BAD);
        for (int n : ODD_NUMBERS) {
            C.due("lift " + n, x.where(n, 0), WrongWay.BAD);
            C.due("minute " + n, x.where(0, n), WrongWay.BAD);
        }
        statuses(x, 8, 0, 0);
    }

    private static void first() {
        C.about("promise 12");
        WrongWay x = plain(11, 0);
        x.lift(3, 0);
        x.lift(0, 11);
        firsts(x, 3, 0, 0, 1, 3);
        firsts(x, 3, 4, 2, 0, 4);
        firsts(x, 3, 9, 2, 1, 5);
        firsts(x, 0, 0, 0, 1, 0);
        firsts(x, 0, 1, 2, 1, 10);
        firsts(x, 11, 999, 0, 0, 2);
        WrongWay y = new WrongWay();
        y.lift(5, 0);
        y.lift(3, 1);
        firsts(y, 5, 0, 1, 1, 4);
        firsts(y, 4, 0, WrongWay.NONE, WrongWay.NONE, WrongWay.NONE);
        statuses(y, 0, 0, 0);
        C.due("first(12, 0, 0)", y.first(12, 0, 0), WrongWay.BAD);
        C.due("first(0, 1000, 0)", y.first(0, 1000, 0), WrongWay.BAD);
        C.due("first(0, 0, 3)", y.first(0, 0, 3), WrongWay.BAD);
        for (int n : ODD_NUMBERS) {
            C.due("f " + n, y.first(n, 0, 0), WrongWay.BAD);
            C.due("m " + n, y.first(0, n, 0), WrongWay.BAD);
            C.due("what " + n, y.first(0, 0, n), WrongWay.BAD);
        }
        statuses(y, 12, 0, 0);
    }

    private static void firsts(WrongWay x, int f, int m, int lift, int way, int minutes) {
        String call = "first(" + f + ", " + m + ", ";
        C.due(call + "0)", x.first(f, m, 0), lift);
        C.due(call + "1)", x.first(f, m, 1), way);
        C.due(call + "2)", x.first(f, m, 2), minutes);
    }

    private static void often() {
        C.about("promise 13");
        WrongWay x = plain(11, 0);
        x.passes(77);
        fraction("often(3, 0)", x, x.often(3, 0), 17, 60);
        fraction("often(3, 1)", x, x.often(3, 1), 63, 10);
        fraction("often(11, 0)", x, x.often(11, 0), 0, 1);
        fraction("often(0, 0)", x, x.often(0, 0), 1, 1);
        WrongWay y = new WrongWay();
        y.lift(5, 0);
        y.lines();
        C.due("often(3, 0)", y.often(3, 0), WrongWay.NO);
        C.due("often(3, 1)", y.often(3, 1), WrongWay.NO);
        C.due("the fraction stays", y.part(0), 1);
        C.due("often(12, 0)", y.often(12, 0), WrongWay.BAD);
        C.due("often(0, 2)", y.often(0, 2), WrongWay.BAD);
        for (int n : ODD_NUMBERS) {
            C.due("f " + n, y.often(n, 0), WrongWay.BAD);
            C.due("what " + n, y.often(0, n), WrongWay.BAD);
        }
        statuses(y, 8, 2, 0);
    }

    private static void own() {
        C.about("promise 14");
        WrongWay x = plain(11, 0);
        fraction("own(3, 1)", x, x.own(3, 1), 53, 5);
        fraction("own(3, 0)", x, x.own(3, 0), 65, 6);
        C.due("own(11, 1)", x.own(11, 1), WrongWay.NO);
        C.due("own(0, 0)", x.own(0, 0), WrongWay.NO);
        C.due("the fraction stays", x.part(0), 65);
        C.due("own(12, 0)", x.own(12, 0), WrongWay.BAD);
        C.due("own(0, 2)", x.own(0, 2), WrongWay.BAD);
        for (int n : ODD_NUMBERS) {
            C.due("f " + n, x.own(n, 0), WrongWay.BAD);
            C.due("way " + n, x.own(0, n), WrongWay.BAD);
        }
        statuses(x, 8, 2, 0);
    }

    private static void ride() {
        C.about("promise 15");
        WrongWay x = new WrongWay();
        x.lift(1, 0);
        x.lift(0, 15);
        C.due("the wrong way along", x.ride(4, 0, 0, 0), 11);
        C.due("by the right", x.ride(4, 0, 0, 1), 7);
        C.due("the same floor", x.ride(3, 3, 999, 0), 0);
        C.due("the same floor by the right", x.ride(3, 3, 999, 1), 0);
        C.due("QUICK is never on 3", x.ride(4, 3, 0, 0), WrongWay.NONE);
        C.due("but PLAIN is", x.ride(4, 3, 0, 1), 4);
        C.due("down first, then up", x.ride(4, 6, 9, 0), 5);
        C.due("up by the right", x.ride(4, 6, 9, 1), 4);
        WrongWay y = new WrongWay();
        y.lift(3, 0);
        C.due("can not be taken on 4", y.ride(1, 4, 0, 0), WrongWay.NONE);
        C.due("nor from 4", y.ride(4, 1, 0, 0), WrongWay.NONE);
        C.due("from 1 to 5", y.ride(1, 5, 0, 0), 5);
        C.due("from 1 to 5 without a wait", y.ride(1, 5, 1, 0), 4);
        C.due("from 1 to 5 in minute 2", y.ride(1, 5, 2, 0), 25);
        C.due("no NONE is refused", y.status(0) + y.status(1) + y.status(2), 0);
        int[][] bad = {{12, 0, 0, 0}, {0, 12, 0, 0}, {0, 0, 1000, 0}, {0, 0, 0, 2}};
        for (int[] b : bad) {
            C.due("a bad ride", y.ride(b[0], b[1], b[2], b[3]), WrongWay.BAD);
            C.due("a bad walk", y.walk(b[0], b[1], b[2], b[3]), WrongWay.BAD);
        }
        for (int n : ODD_NUMBERS) {
            C.due("f " + n, y.ride(n, 0, 0, 0) + y.walk(n, 0, 0, 0), 2 * WrongWay.BAD);
            C.due("to " + n, y.ride(0, n, 0, 0) + y.walk(0, n, 0, 0), 2 * WrongWay.BAD);
            C.due("m " + n, y.ride(0, 0, n, 0) + y.walk(0, 0, n, 0), 2 * WrongWay.BAD);
            C.due("what " + n, y.ride(0, 0, 0, n) + y.walk(0, 0, 0, n), 2 * WrongWay.BAD);
        }
        statuses(y, 32, 0, 0);
    }

    private static void walk() {
        C.about("promise 16");
        WrongWay none = new WrongWay();
        walks(none, 0, 11, 0, 11, 22);
        walks(none, 11, 0, 999, 0, 22);
        walks(none, 5, 5, 3, 5, 0);
        WrongWay odd = new WrongWay();
        odd.lift(3, 0);
        walks(odd, 4, 11, 0, 3, 11);
        walks(odd, 4, 3, 4, 3, 2);
        WrongWay like = plain(11, 20);
        walks(like, 1, 0, 0, 1, 2);
        walks(like, 3, 0, 4, 0, 6);
        walks(plain(11, 0), 3, 0, 22 * 44 + 17, 3, 5);
    }

    private static void walks(WrongWay x, int f, int to, int m, int floor, int minutes) {
        String call = "walk(" + f + ", " + to + ", " + m + ", ";
        C.due(call + "0)", x.walk(f, to, m, 0), floor);
        C.due(call + "1)", x.walk(f, to, m, 1), minutes);
    }

    private static void lines() {
        C.about("promise 17");
        WrongWay x = new WrongWay();
        fraction("lines() at first", x, x.lines(), 1, 1);
        x.line(1, 10, 1);
        // Line 1 is next in the minutes 1, 11, .. 51 alone.
        fraction("one minute behind", x, x.lines(), 9, 10);
        x.line(0, 1, 29);
        x.line(1, 30, 0);
        // Ahead of its AT there is none of line 0: line 1 has minute 0 alone, 30 is a like one.
        fraction("AT is the first one", x, x.lines(), 59, 60);
        x.line(1, 1, 0);
        fraction("none ahead of AT", x, x.lines(), 31, 60);
        x.line(0, 30, 29);
        fraction("every minute", x, x.lines(), 1, 30);
    }

    private static void even() {
        C.about("promise 18");
        WrongWay x = new WrongWay();
        C.due("even()", x.even(), 5);
        x.line(1, 10, 28);
        x.lines();
        long above = x.part(0);
        long before = x.digest();
        // By 30 left over: 28 and 7 is 5.
        C.due("even() from 28", x.even(), 7);
        C.due("nothing is changed", x.digest(), before);
        C.due("the fraction stays", x.part(0), above);
        x.line(0, 1, 0);
        C.due("no shift helps: the least", x.even(), 0);
        x.line(0, 30, 14);
        x.line(1, 30, 0);
        // Half a round from line 0 is AT 29 alone.
        C.due("the last shift", x.even(), 29);
    }

    private static void noteAndForget() {
        C.about("promises 19, 20");
        WrongWay x = plain(5, 0);
        int[][] bad = {{1, 0, 0, 0}, {0, 6, 0, 0}, {0, 0, 100, 0}, {0, 0, 0, 2}};
        for (int[] b : bad) {
            C.due("a bad note", x.note(b[0], b[1], b[2], b[3]), WrongWay.BAD);
        }
        for (int n : ODD_NUMBERS) {
            C.due("lift " + n, x.note(n, 0, 0, 0), WrongWay.BAD);
            C.due("f " + n, x.note(0, n, 0, 0), WrongWay.BAD);
            C.due("m " + n, x.note(0, 0, n, 0), WrongWay.BAD);
            C.due("there " + n, x.note(0, 0, 0, n), WrongWay.BAD);
        }
        for (int i = 1; i <= 6; i++) {
            C.due("note", x.note(0, 5, 99, i % 2), i);
        }
        C.due("a seventh", x.note(0, 5, 99, 1), WrongWay.FULL);
        C.due("BAD is ahead of FULL", x.note(0, 6, 99, 1), WrongWay.BAD);
        statuses(x, 17, 0, 1);
        C.due("forget()", x.forget(), 6);
        C.due("forget()", x.forget(), 0);
        C.due("note", x.note(0, 0, 0, 1), 1);
    }

    private static void isAndLook() {
        C.about("promises 21, 22");
        WrongWay x = plain(11, 0);
        x.lift(2, 0);
        C.due("all kinds", x.is(0, 0), 63);
        C.due("all starts", x.is(0, 1), 100);
        C.due("look(0, 0)", x.look(0, 0), 24);
        x.note(0, 1, 1, 1);
        C.due("all but QUICK", x.is(0, 0), 61);
        C.due("starts", x.is(0, 1), 9);
        C.due("of another nothing is noted", x.is(1, 0), 63);
        x.note(0, 11, 12, 1);
        C.due("LATE alone", x.is(0, 0), 16);
        C.due("one kind: the first minute", x.look(0, 7), 0);
        C.due("no start of PLAIN", x.is(0, 1), 0);
        x.note(0, 0, 0, 0);
        C.due("none", x.is(0, 0), 0);
        C.due("no kind: no look", x.look(0, 0), WrongWay.NONE);
        C.due("no NONE is refused", x.status(0) + x.status(1), 0);
        // QUICK, RESTS and LATE are below, the others above: no minute ahead of it parts them so well.
        C.due("the last minute", plain(3, 27).look(0, 0), 30);
        C.due("the last but one", plain(3, 28).look(0, 0), 29);
        C.due("behind the last", plain(3, 26).look(0, 0), 1);
        WrongWay y = new WrongWay();
        y.lift(5, 0);
        y.note(0, 2, 2, 1);
        C.due("on a floor, though it can not be taken there", y.is(0, 0), 61);
        C.due("is(1, 0)", y.is(1, 0), WrongWay.BAD);
        C.due("is(0, 2)", y.is(0, 2), WrongWay.BAD);
        C.due("look(1, 0)", y.look(1, 0), WrongWay.BAD);
        C.due("look(0, 12)", y.look(0, 12), WrongWay.BAD);
        for (int n : ODD_NUMBERS) {
            C.due("is lift " + n, y.is(n, 0), WrongWay.BAD);
            C.due("is what " + n, y.is(0, n), WrongWay.BAD);
            C.due("look lift " + n, y.look(n, 0), WrongWay.BAD);
            C.due("look f " + n, y.look(0, n), WrongWay.BAD);
        }
        statuses(y, 16, 0, 0);
    }

    private static void porters() {
        C.about("promise 23");
        WrongWay x = plain(11, 0);
        fraction("by 3 of one", x, x.porters(0, 0, 0, 3), 7, 10);
        x.lift(0, 11);
        x.lift(5, 11);
        fraction("in minute 0", x, x.porters(0, 0, 0, 3), 7, 10);
        fraction("too soon", x, x.porters(0, 0, 10, 3), 7, 10);
        fraction("all three", x, x.porters(0, 0, 11, 3), 973, 1000);
        fraction("halves", x, x.porters(0, 0, 200, 5), 7, 8);
        fraction("never taken", x, x.porters(0, 0, 200, 0), 1, 1);
        fraction("always taken", x, x.porters(0, 0, 200, 10), 0, 1);
        fraction("EXPRESS is not for 3", x, x.porters(3, 999, 200, 5), 3, 4);
        fraction("none in time", x, x.porters(3, 0, 2, 0), 0, 1);
        int[][] bad = {{12, 0, 0, 0}, {0, 1000, 0, 0}, {0, 0, 201, 0}, {0, 0, 0, 11}};
        for (int[] b : bad) {
            C.due("bad porters", x.porters(b[0], b[1], b[2], b[3]), WrongWay.BAD);
        }
        for (int n : ODD_NUMBERS) {
            C.due("f " + n, x.porters(n, 0, 0, 0), WrongWay.BAD);
            C.due("m " + n, x.porters(0, n, 0, 0), WrongWay.BAD);
            C.due("n " + n, x.porters(0, 0, n, 0), WrongWay.BAD);
            C.due("c " + n, x.porters(0, 0, 0, n), WrongWay.BAD);
        }
        statuses(x, 16, 0, 0);
        C.due("the fraction stays", x.part(1), 1);
    }

    private static void days() {
        C.about("promise 24");
        WrongWay x = plain(11, 0);
        C.due("no days", x.days(3, 999999, 0), 0);
        // Seed 0: X is 12345 on the first day, so minute 0: the lift comes in 3, UP.
        C.due("one day", x.days(3, 0, 1), 1);
        C.due("below all go up", x.days(0, 5, 60), 60);
        C.due("above all go down", x.days(11, 5, 60), 0);
        // Seed 1: X by 65536, cut, is 16838, 5758, 10113, 17515, 31051: minutes 38, 118, 33, 115, 91,
        // places 16, 8, 11, 5, 3 of the round: only from the last it comes UP first.
        C.due("four days", x.days(3, 1, 4), 0);
        C.due("five days", x.days(3, 1, 5), 1);
        C.due("none comes", new WrongWay().days(0, 1, 60), 0);
        C.due("days(12, 0, 0)", x.days(12, 0, 0), WrongWay.BAD);
        C.due("days(0, 1000000, 0)", x.days(0, 1000000, 0), WrongWay.BAD);
        C.due("days(0, 0, 61)", x.days(0, 0, 61), WrongWay.BAD);
        for (int n : ODD_NUMBERS) {
            C.due("f " + n, x.days(n, 0, 0), WrongWay.BAD);
            C.due("seed " + n, x.days(0, n, 0), WrongWay.BAD);
            C.due("n " + n, x.days(0, 0, n), WrongWay.BAD);
        }
        statuses(x, 12, 0, 0);
    }

    private static void part() {
        C.about("promise 25");
        WrongWay x = plain(11, 0);
        x.own(3, 0);
        C.due("part(0)", x.part(0), 65);
        C.due("part(1)", x.part(1), 6);
        C.due("part(2)", x.part(2), WrongWay.BAD);
        for (int n : ODD_NUMBERS) {
            C.due("part " + n, x.part(n), WrongWay.BAD);
        }
        statuses(x, 4, 0, 0);
    }

    private static void images() {
        C.about("promises 26, 27");
        WrongWay x = plain(6, 1);
        x.passes(10);
        x.passes(20);
        x.line(1, 4, 5);
        x.note(0, 6, 7, 1);
        C.due("from(1)", x.from(1), WrongWay.NO);
        C.due("image(1)", x.image(1), 1);
        C.due("from(0)", x.from(0), WrongWay.NO);
        long before = x.digest();
        x.undo();
        x.note(0, 5, 7, 0);
        x.line(1, 9, 9);
        x.lift(3, 3);
        x.house(2);
        x.lift(4, 4);
        x.note(0, 1, 2, 0);
        x.passes(3);
        x.passes(3);
        C.due("from(1)", x.from(1), 1);
        C.due("digest as kept", x.digest(), before);
        C.due("undo() as kept", x.undo(), 10);
        C.due("undo() as kept", x.undo(), 0);
        C.due("image(0)", x.image(0), 1);
        x.type('a');
        x.own(3, 1);
        long above = x.part(0);
        x.from(1);
        counts(x, 1, 6, 30, 1, 2, 1);
        C.due("the fraction stays", x.part(0), above);
        x.from(0);
        counts(x, 1, 6, 0, 1, 0, 1);
        x.passes(7);
        x.image(0);
        x.from(0);
        counts(x, 1, 6, 7, 1, 1, 1);
        C.due("image(2)", x.image(2), WrongWay.BAD);
        C.due("from(2)", x.from(2), WrongWay.BAD);
        for (int n : ODD_NUMBERS) {
            C.due("image " + n, x.image(n), WrongWay.BAD);
            C.due("from " + n, x.from(n), WrongWay.BAD);
        }
        statuses(x, 8, 2, 0);
    }

    private static void status() {
        C.about("promise 28");
        WrongWay x = new WrongWay();
        x.undo();
        x.house(99);
        x.house(99);
        for (int i = 0; i < 5; i++) {
            x.lift(0, 0);
        }
        statuses(x, 2, 1, 1);
        C.due("status(3)", x.status(3), -1);
        C.due("status(-1)", x.status(-1), -1);
        statuses(x, 4, 1, 1);
        for (int n : ODD_NUMBERS) {
            C.due("status " + n, x.status(n), -1);
        }
        statuses(x, 7, 1, 1);
        x.image(0);
        x.from(0);
        x.house(5);
        statuses(x, 7, 1, 1);
    }

    private static void count() {
        C.about("promise 29");
        WrongWay x = plain(9, 0);
        x.lift(1, 1);
        x.passes(8);
        x.passes(9);
        x.passes(9);
        x.note(1, 1, 1, 1);
        x.type(1);
        x.type(2);
        x.type(3);
        x.type(4);
        counts(x, 2, 9, 26, 1, 3, 4);
        C.due("count(6)", x.count(6), WrongWay.BAD);
        for (int n : ODD_NUMBERS) {
            C.due("count " + n, x.count(n), WrongWay.BAD);
        }
        statuses(x, 4, 0, 0);
    }

    private static void digest() {
        C.about("promise 30");
        WrongWay x = plain(9, 12);
        x.lift(5, 99);
        x.line(0, 2, 3);
        x.line(1, 4, 5);
        x.passes(8);
        x.note(1, 6, 7, 0);
        x.note(0, 8, 9, 1);
        x.type(1);
        x.porters(0, 0, 200, 5);
        C.due("digest()", x.digest(), hash(2, 9, 8, 2, 1, 1, 0, 12, 5, 99, 2, 3, 4, 5,
                1, 6, 7, 0, 0, 8, 9, 1, 3, 4));
        C.due("nothing is refused by it", x.status(0), 0);
    }

    private static void refusalsChangeNothing() {
        C.about("refusals");
        WrongWay x = plain(9, 12);
        x.passes(8);
        x.note(0, 8, 9, 1);
        x.own(3, 1);
        long before = x.digest();
        x.house(12);
        x.lift(6, 0);
        x.line(0, 31, 0);
        x.type(128);
        x.passes(100);
        x.of(0, 6);
        x.often(0, 2);
        x.own(9, 1);
        x.own(0, 2);
        x.note(0, 10, 0, 0);
        x.porters(0, 0, 0, 11);
        x.image(2);
        x.from(0);
        x.status(3);
        x.count(6);
        x.part(2);
        C.due("digest", x.digest(), before);
        statuses(x, 14, 2, 0);
    }
}
