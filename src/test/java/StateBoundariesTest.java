import java.math.BigInteger;

/**
 * Minutes, images, STATUS, THE FRACTION and what is told of all, promises 8, 9 and 25 to 30: a test of its
 * own for each sentence that names a boundary case. Answers are worked out by hand.
 */
public final class StateBoundariesTest {
    private static final Check C = new Check();

    public static void main(String[] args) {
        aNewObject();
        passesOneTo99();
        passesTogetherOne();
        passes999AtMost();
        passesAt999();
        undoAtFirst();
        undoEightAtMost();
        undoTheLastOneFirst();
        undoBehindALift();
        undoBehindARefusedLift();
        undoBehindHouseAndRead();
        undoBehindAllElse();
        fractionAtFirst();
        fractionOfNothing();
        fractionInLowestTerms();
        fractionIsLeftByRefusals();
        partWhat();
        imagesZeroAndOne();
        imageOfANewObject();
        imageKeepsAll();
        imageLeavesTextFractionStatus();
        imageKeepsWhatMayBeUndone();
        imageIsAsItWas();
        imageKeepsEachNumber();
        imageOverAnImage();
        fromNoneKept();
        statusAtFirst();
        statusByReason();
        statusAnotherWhat();
        countWhat();
        countAtTheBounds();
        digestOfANewObject();
        digestWrapsAround();
        digestOfAllInTheirOrder();
        digestChangesNothing();
        C.end();
    }

    private static void counts(WrongWay x, int... due) {
        for (int what = 0; what < due.length; what++) {
            C.due("count(" + what + ")", x.count(what), due[what]);
        }
    }

    private static void statuses(WrongWay x, int bad, int no, int full) {
        C.due("status(0)", x.status(0), bad);
        C.due("status(1)", x.status(1), no);
        C.due("status(2)", x.status(2), full);
    }

    /** By numbers without bound, what is left over by 2 to the 64th. */
    private static long hash(long... values) {
        BigInteger h = BigInteger.valueOf(1123);
        for (long v : values) {
            h = h.multiply(BigInteger.valueOf(31)).add(BigInteger.valueOf(v));
        }
        return h.longValue();
    }

    private static void aNewObject() {
        C.about("a new object: as told; no LIFTS; LINES EVERY 10, AT 0");
        WrongWay x = new WrongWay();
        counts(x, 0, 11, 0, 0, 0, 0);
        statuses(x, 0, 0, 0);
        C.due("line 0", x.line(0, 1, 1), 1000);
        C.due("line 1", x.line(1, 1, 1), 1000);
        C.due("undo", x.undo(), WrongWay.NO);
        C.due("from(0)", x.from(0), WrongWay.NO);
        C.due("from(1)", x.from(1), WrongWay.NO);
        C.due("clear", x.clear(), 0);
        C.due("forget", x.forget(), 0);
        // One object knows nothing of another.
        WrongWay y = new WrongWay();
        C.due("line 0 of another", y.line(0, 10, 0), 1000);
        statuses(y, 0, 0, 0);
    }

    private static void passesOneTo99() {
        C.about("passes: n MINUTES (1 .. 99)");
        WrongWay x = new WrongWay();
        C.due("passes(0)", x.passes(0), WrongWay.BAD);
        C.due("passes(-1)", x.passes(-1), WrongWay.BAD);
        C.due("passes(100)", x.passes(100), WrongWay.BAD);
        counts(x, 0, 11, 0, 0, 0, 0);
        C.due("passes(1)", x.passes(1), 1);
        C.due("passes(99)", x.passes(99), 100);
        counts(x, 0, 11, 100, 0, 2, 0);
        statuses(x, 3, 0, 0);
    }

    private static void passesTogetherOne() {
        C.about("passes: together one that may be undone");
        WrongWay x = new WrongWay();
        x.passes(99);
        C.due("count(4)", x.count(4), 1);
        C.due("undo", x.undo(), 0);
        C.due("count(4)", x.count(4), 0);
        C.due("undo again", x.undo(), WrongWay.NO);
    }

    private static WrongWay inMinute(int minute) {
        WrongWay x = new WrongWay();
        for (int gone = 0; gone < minute;) {
            gone = x.passes(Math.min(99, minute - gone));
        }
        C.due("the minute", x.count(2), minute);
        return x;
    }

    private static void passes999AtMost() {
        C.about("passes: 999 at most");
        C.due("997 and 1", inMinute(997).passes(1), 998);
        C.due("998 and 1", inMinute(998).passes(1), 999);
        C.due("998 and 2", inMinute(998).passes(2), 999);
        C.due("900 and 98", inMinute(900).passes(98), 998);
        C.due("900 and 99", inMinute(900).passes(99), 999);
        C.due("901 and 99", inMinute(901).passes(99), 999);
        WrongWay x = inMinute(998);
        x.passes(99);
        C.due("undone by one", x.undo(), 998);
        statuses(x, 0, 0, 0);
    }

    private static void passesAt999() {
        C.about("passes at 999");
        WrongWay x = inMinute(999);
        C.due("passes(1)", x.passes(1), 999);
        C.due("passes(99)", x.passes(99), 999);
        C.due("passes(100)", x.passes(100), WrongWay.BAD);
        C.due("count(2)", x.count(2), 999);
        C.due("count(4)", x.count(4), 8);
        C.due("undo", x.undo(), 999);
        C.due("undo", x.undo(), 999);
        C.due("undo", x.undo(), 990);
    }

    private static void undoAtFirst() {
        C.about("undo: NO, none may be");
        WrongWay x = new WrongWay();
        C.due("undo", x.undo(), WrongWay.NO);
        C.due("count(2)", x.count(2), 0);
        C.due("count(4)", x.count(4), 0);
        statuses(x, 0, 1, 0);
    }

    private static void undoEightAtMost() {
        C.about("UNDO: 8 at most");
        for (int gone = 7; gone <= 20; gone++) {
            WrongWay x = new WrongWay();
            for (int i = 0; i < gone; i++) {
                x.passes(5);
            }
            int most = Math.min(8, gone);
            C.due("count(4)", x.count(4), most);
            for (int i = 1; i <= most; i++) {
                C.due("undo", x.undo(), 5 * (gone - i));
                C.due("count(4)", x.count(4), most - i);
            }
            C.due("a further one", x.undo(), WrongWay.NO);
            C.due("the minute stays", x.count(2), 5 * (gone - most));
            statuses(x, 0, 1, 0);
        }
    }

    private static void undoTheLastOneFirst() {
        C.about("UNDO: the MINUTE as ahead of the last MINUTES gone by");
        WrongWay x = new WrongWay();
        x.passes(1);
        x.passes(10);
        x.passes(99);
        C.due("ahead of 99", x.undo(), 11);
        C.due("ahead of 10", x.undo(), 1);
        C.due("passes(50)", x.passes(50), 51);
        C.due("ahead of 50", x.undo(), 1);
        C.due("ahead of 1", x.undo(), 0);
        for (int i = 1; i <= 9; i++) {
            x.passes(i);
        }
        C.due("ahead of 9", x.undo(), 36);
        x.passes(20);
        x.passes(20);
        C.due("count(4)", x.count(4), 8);
        C.due("ahead of 20", x.undo(), 56);
        C.due("ahead of 20", x.undo(), 36);
        C.due("ahead of 8", x.undo(), 28);
    }

    private static void undoBehindALift() {
        C.about("UNDO: behind a LIFT that comes none may be");
        WrongWay x = new WrongWay();
        x.passes(3);
        x.passes(4);
        x.lift(0, 0);
        C.due("count(4)", x.count(4), 0);
        C.due("undo", x.undo(), WrongWay.NO);
        C.due("the minute stays", x.count(2), 7);
        x.passes(2);
        C.due("what goes by behind it", x.undo(), 7);
        C.due("no further", x.undo(), WrongWay.NO);
        statuses(x, 0, 2, 0);
    }

    private static void undoBehindARefusedLift() {
        C.about("UNDO: a LIFT that is refused does not come");
        WrongWay x = Made.house(5, 0, 0, 0, 0, 0, 0, 0, 0);
        x.passes(3);
        C.due("BAD", x.lift(6, 0), WrongWay.BAD);
        C.due("count(4)", x.count(4), 1);
        C.due("FULL", x.lift(0, 0), WrongWay.FULL);
        C.due("count(4)", x.count(4), 1);
        C.due("undo", x.undo(), 0);
    }

    private static void undoBehindHouseAndRead() {
        C.about("UNDO: nothing to undo behind house, read");
        WrongWay x = new WrongWay();
        x.passes(3);
        x.house(12);
        C.due("a house that is refused", x.count(4), 1);
        x.house(3);
        C.due("house", x.count(4), 0);
        C.due("undo", x.undo(), WrongWay.NO);
        x.passes(3);
        Made.typed(x, "house 0;");
        x.read();
        C.due("a fault", x.count(4), 1);
        Made.typed(x, "house 1;");
        x.read();
        C.due("read", x.count(4), 0);
        C.due("undo", x.undo(), WrongWay.NO);
    }

    private static void undoBehindAllElse() {
        C.about("UNDO: all else leaves what may be undone, and is not undone");
        WrongWay x = Made.house(5, 0, 0);
        x.passes(3);
        x.line(0, 5, 5);
        x.note(0, 1, 1, 1);
        x.type(' ');
        x.image(0);
        x.lines();
        x.forget();
        x.note(0, 2, 2, 0);
        x.clear();
        x.type(';');
        x.read();
        C.due("undo", x.undo(), 0);
        counts(x, 1, 5, 0, 1, 0, 1);
        C.due("line 0", x.line(0, 1, 0), 505);
        // Line 1 is next in minute 0 alone.
        C.due("above stays", x.part(0), 59);
        C.due("below stays", x.part(1), 60);
    }

    private static void fractionAtFirst() {
        C.about("THE FRACTION is 0 by 1 at first");
        WrongWay x = new WrongWay();
        C.due("above", x.part(0), 0);
        C.due("below", x.part(1), 1);
    }

    private static void fraction(String call, WrongWay x, int answer, long above, long below) {
        C.due(call, answer, 1);
        C.due(call + " above", x.part(0), above);
        C.due(call + " below", x.part(1), below);
    }

    private static void fractionOfNothing() {
        C.about("THE FRACTION: 0 is 0 by 1");
        WrongWay x = Made.house(5, 0, 0);
        fraction("chance above", x, x.often(5, 0), 0, 1);
        fraction("a chance that is not 0", x, x.often(0, 0), 1, 1);
        fraction("porters take all", x, x.porters(0, 0, 200, 10), 0, 1);
        WrongWay y = Made.house(1, 1, 0);
        y.lines();
        fraction("no wait", y, y.often(0, 1), 0, 1);
        y.lines();
        fraction("no wait for one's own way", y, y.own(0, 0), 0, 1);
    }

    private static void fractionInLowestTerms() {
        C.about("THE FRACTION: lowest terms, below above 0");
        WrongWay x = Made.house(5, 0, 0);
        // A round's waits are 0 and 9 .. 1: 45 of 10, in 12 rounds.
        fraction("540 by 120", x, x.often(0, 1), 9, 2);
        fraction("60 by 60", x, x.lines(), 1, 1);
        fraction("5 by 10", x, x.porters(0, 0, 0, 5), 1, 2);
        fraction("8 by 10", x, x.porters(0, 0, 0, 2), 4, 5);
        fraction("7 by 10", x, x.porters(0, 0, 0, 3), 7, 10);
        x.line(1, 10, 1);
        fraction("54 by 60", x, x.lines(), 9, 10);
    }

    private static void fractionIsLeftByRefusals() {
        C.about("THE FRACTION is left by what is refused");
        WrongWay x = Made.house(5, 5, 0);
        x.porters(0, 0, 0, 3);
        x.often(3, 0);
        x.often(3, 1);
        x.own(5, 1);
        x.often(6, 0);
        x.own(0, 2);
        x.porters(0, 0, 0, 11);
        x.part(2);
        C.due("above", x.part(0), 7);
        C.due("below", x.part(1), 10);
        statuses(x, 4, 3, 0);
    }

    private static void partWhat() {
        C.about("part: above (0), below (1)");
        WrongWay x = Made.house(5, 0, 0);
        x.porters(0, 0, 0, 3);
        C.due("part(-1)", x.part(-1), WrongWay.BAD);
        C.due("part(0)", x.part(0), 7);
        C.due("part(1)", x.part(1), 10);
        C.due("part(2)", x.part(2), WrongWay.BAD);
        statuses(x, 2, 0, 0);
    }

    private static void imagesZeroAndOne() {
        C.about("IMAGES 0, 1");
        WrongWay x = new WrongWay();
        C.due("image(-1)", x.image(-1), WrongWay.BAD);
        C.due("image(2)", x.image(2), WrongWay.BAD);
        C.due("from(-1)", x.from(-1), WrongWay.BAD);
        C.due("from(2)", x.from(2), WrongWay.BAD);
        x.house(3);
        C.due("image(0)", x.image(0), 1);
        x.house(4);
        C.due("image(1)", x.image(1), 1);
        x.house(5);
        C.due("from(0)", x.from(0), 1);
        C.due("F of 0", x.count(1), 3);
        C.due("from(1)", x.from(1), 1);
        C.due("F of 1", x.count(1), 4);
        statuses(x, 4, 0, 0);
    }

    private static void imageOfANewObject() {
        C.about("an IMAGE of what is there at first");
        WrongWay x = new WrongWay();
        x.image(1);
        x.house(2);
        x.lift(3, 3);
        x.line(0, 3, 3);
        x.passes(3);
        x.note(0, 0, 0, 0);
        C.due("from(1)", x.from(1), 1);
        C.due("digest", x.digest(), new WrongWay().digest());
        C.due("undo", x.undo(), WrongWay.NO);
    }

    private static void imageKeepsAll() {
        C.about("IMAGES keep all");
        WrongWay x = Made.full();
        long before = x.digest();
        x.image(0);
        x.house(1);
        x.lift(5, 5);
        x.line(0, 29, 28);
        x.line(1, 28, 27);
        x.passes(77);
        x.note(0, 1, 1, 0);
        C.due("from(0)", x.from(0), 1);
        C.due("digest", x.digest(), before);
        counts(x, 4, 11, 883, 6, 8, 150);
        for (int i = 1; i <= 8; i++) {
            C.due("undo", x.undo(), 883 - 98 * i);
        }
        C.due("undo", x.undo(), WrongWay.NO);
    }

    private static void imageLeavesTextFractionStatus() {
        C.about("IMAGES keep all but them, THE TEXT, THE FRACTION and STATUS");
        WrongWay x = Made.house(5, 0, 0);
        x.image(1);
        x.house(4);
        x.image(0);
        Made.typed(x, "house 7;");
        x.lines();
        x.undo();
        x.house(0);
        C.due("from(1)", x.from(1), 1);
        C.due("THE TEXT", x.count(5), 8);
        C.due("THE FRACTION", x.part(0), 1);
        statuses(x, 1, 1, 0);
        C.due("from(0): it is not in the image", x.from(0), 1);
        C.due("F", x.count(1), 4);
        C.due("THE TEXT is read", x.read(), 1);
        C.due("F", x.count(1), 7);
    }

    private static void imageKeepsWhatMayBeUndone() {
        C.about("what may be undone they keep");
        WrongWay x = new WrongWay();
        x.passes(10);
        x.passes(20);
        x.image(0);
        x.undo();
        x.undo();
        x.passes(5);
        x.image(1);
        x.from(0);
        C.due("count(4)", x.count(4), 2);
        C.due("undo", x.undo(), 10);
        C.due("undo", x.undo(), 0);
        C.due("undo", x.undo(), WrongWay.NO);
        x.from(1);
        C.due("count(4)", x.count(4), 1);
        C.due("undo", x.undo(), 0);
        x.from(0);
        C.due("the image has them still", x.undo(), 10);
        // It goes on from one: from itself it is not undone.
        x.house(3);
        x.passes(1);
        x.from(1);
        C.due("from is not one that is undone", x.undo(), 0);
    }

    private static void imageIsAsItWas() {
        C.about("an IMAGE stays as it was kept");
        WrongWay x = Made.house(5, 0, 7);
        x.image(0);
        long before = x.digest();
        for (int i = 0; i < 3; i++) {
            x.lift(1, i);
            x.line(0, 1 + i, i);
            x.passes(9);
            x.note(0, 0, 0, 0);
            C.due("from(0)", x.from(0), 1);
            C.due("digest", x.digest(), before);
        }
    }

    private static void imageKeepsEachNumber() {
        C.about("IMAGES keep each number of LIFTS, LINES, NOTED");
        WrongWay x = Made.house(5, 0, 1, 2, 3);
        x.line(0, 4, 5);
        x.line(1, 6, 7);
        x.note(0, 1, 2, 0);
        x.note(1, 3, 4, 1);
        x.image(0);
        long before = x.digest();
        // As many of all, but each number another.
        x.house(4);
        x.lift(5, 6);
        x.lift(4, 2);
        x.line(0, 8, 9);
        x.line(1, 9, 8);
        x.note(1, 2, 1, 1);
        x.note(0, 4, 3, 0);
        x.image(1);
        long other = x.digest();
        for (int i = 0; i < 3; i++) {
            C.due("from(0)", x.from(0), 1);
            C.due("digest of 0", x.digest(), before);
            C.due("from(1)", x.from(1), 1);
            C.due("digest of 1", x.digest(), other);
        }
        C.due("digests", before, hash(2, 5, 0, 2, 0, 0, 0, 1, 2, 3, 4, 5, 6, 7, 0, 1, 2, 0, 1, 3, 4, 1, 0, 1));
        C.due("digests", other, hash(2, 4, 0, 2, 0, 0, 5, 6, 4, 2, 8, 9, 9, 8, 1, 2, 1, 1, 0, 4, 3, 0, 0, 1));
    }

    private static void imageOverAnImage() {
        C.about("an IMAGE over an IMAGE");
        WrongWay x = Made.house(5, 0, 7);
        x.image(0);
        x.house(2);
        C.due("image(0)", x.image(0), 1);
        x.house(9);
        x.from(0);
        counts(x, 0, 2, 0, 0, 0, 0);
        x.image(1);
        x.from(1);
        C.due("what is kept at once is as it is", x.count(1), 2);
    }

    private static void fromNoneKept() {
        C.about("from: NO, none was kept");
        WrongWay x = Made.house(5, 0, 7);
        long before = x.digest();
        C.due("from(0)", x.from(0), WrongWay.NO);
        C.due("from(1)", x.from(1), WrongWay.NO);
        C.due("image(2)", x.image(2), WrongWay.BAD);
        C.due("from(0) still", x.from(0), WrongWay.NO);
        x.image(0);
        C.due("from(1) still", x.from(1), WrongWay.NO);
        C.due("digest", x.digest(), before);
        statuses(x, 1, 4, 0);
        x.house(1);
        C.due("house does not take it", x.from(0), 1);
    }

    private static void statusAtFirst() {
        C.about("STATUS at first");
        statuses(new WrongWay(), 0, 0, 0);
    }

    private static void statusByReason() {
        C.about("STATUS: BAD (0), NO (1), FULL (2)");
        WrongWay x = new WrongWay();
        x.house(0);
        statuses(x, 1, 0, 0);
        x.undo();
        x.undo();
        statuses(x, 1, 2, 0);
        for (int i = 0; i < 7; i++) {
            x.lift(0, 0);
        }
        statuses(x, 1, 2, 3);
        x.image(0);
        x.house(1);
        x.from(0);
        x.clear();
        x.read();
        statuses(x, 1, 2, 3);
    }

    private static void statusAnotherWhat() {
        C.about("status: -1, another what (counts as BAD)");
        WrongWay x = new WrongWay();
        long before = x.digest();
        C.due("status(-1)", x.status(-1), -1);
        C.due("status(0)", x.status(0), 1);
        C.due("status(3)", x.status(3), -1);
        C.due("status(0)", x.status(0), 2);
        statuses(x, 2, 0, 0);
        C.due("digest", x.digest(), before);
    }

    private static void countWhat() {
        C.about("count: 0 .. 5");
        WrongWay x = Made.house(7, 0, 0, 1, 1);
        x.passes(40);
        x.passes(2);
        x.passes(2);
        x.note(0, 0, 0, 0);
        Made.typed(x, "     ");
        C.due("count(-1)", x.count(-1), WrongWay.BAD);
        counts(x, 2, 7, 44, 1, 3, 5);
        C.due("count(6)", x.count(6), WrongWay.BAD);
        statuses(x, 2, 0, 0);
    }

    private static void countAtTheBounds() {
        C.about("count: the least, the greatest");
        counts(Made.full(), 4, 11, 883, 6, 8, 150);
        WrongWay x = Made.full();
        x.passes(99);
        x.passes(99);
        counts(x, 4, 11, 999, 6, 8, 150);
        x.house(1);
        x.clear();
        counts(x, 0, 1, 0, 0, 0, 0);
    }

    private static void digestOfANewObject() {
        C.about("digest of a new object");
        C.due("digest", new WrongWay().digest(), hash(0, 11, 0, 0, 0, 0, 10, 0, 10, 0, 0, 1));
    }

    private static void digestWrapsAround() {
        C.about("digest: h = 31 h + v, wrapping around");
        WrongWay x = Made.full();
        C.due("digest", x.digest(), hash(4, 11, 883, 6, 8, 150,
                0, 0, 1, 99, 5, 7, 2, 30,
                10, 0, 10, 0,
                0, 0, 0, 0, 1, 2, 16, 1, 2, 4, 32, 0, 3, 6, 48, 1, 0, 8, 64, 0, 1, 10, 80, 1,
                1, 1));
    }

    private static void digestOfAllInTheirOrder() {
        C.about("digest: each v in its place");
        WrongWay x = Made.house(9, 4, 12, 5, 99);
        x.line(0, 2, 3);
        x.line(1, 4, 5);
        x.passes(8);
        x.note(1, 6, 7, 0);
        x.note(0, 8, 9, 1);
        x.type(1);
        x.porters(0, 23, 0, 3);
        C.due("digest", x.digest(), hash(2, 9, 8, 2, 1, 1, 4, 12, 5, 99, 2, 3, 4, 5,
                1, 6, 7, 0, 0, 8, 9, 1, x.part(0), x.part(1)));
        // What is forgotten, undone or cleared is not in it.
        x.forget();
        x.undo();
        x.clear();
        C.due("digest", x.digest(), hash(2, 9, 0, 0, 0, 0, 4, 12, 5, 99, 2, 3, 4, 5, x.part(0), x.part(1)));
        x.house(9);
        C.due("digest", x.digest(), hash(0, 9, 0, 0, 0, 0, 10, 0, 10, 0, x.part(0), x.part(1)));
    }

    private static void digestChangesNothing() {
        C.about("digest changes nothing");
        WrongWay x = Made.full();
        long before = x.digest();
        C.due("digest", x.digest(), before);
        statuses(x, 0, 0, 0);
        C.holds("all stays", Made.allOf(x).equals(Made.allOf(Made.full())));
    }
}
