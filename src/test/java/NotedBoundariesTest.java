import java.math.BigInteger;

/**
 * What was seen, promises 19 to 24: a test of its own for each sentence that names a boundary case.
 * Answers are worked out by hand.
 */
public final class NotedBoundariesTest {
    private static final Check C = new Check();
    private static final int PLAIN = 0;
    private static final int QUICK = 1;
    private static final int RESTS = 2;
    private static final int ODD = 3;
    private static final int LATE = 4;
    private static final int EXPRESS = 5;

    public static void main(String[] args) {
        notedFromZeroToFive();
        notedOfLiftsThereAre();
        notedOnFloorsThereAre();
        notedInMinutes0To99();
        notedThereOrNot();
        forgetTellsHowManyThereWere();
        isOfNothingNoted();
        isByItsOwnStart();
        isOfAnotherLift();
        isOfNoKind();
        isOfSixNoted();
        isThoughItCanNotBeTaken();
        isWhat();
        startsAll();
        startsNone();
        startsFirstAndLast();
        startsByItsOwnKind();
        notedOverlastTheMinute();
        lookInMinutes0To30();
        lookOfLikeOnesTheFirst();
        lookOfOneKind();
        lookNone();
        lookTheGreaterPart();
        portersTakeNone();
        portersTakeAll();
        portersOfNoLift();
        portersWaitNOrLess();
        portersWait0To200();
        portersInMinutes0To999();
        portersOfFour();
        daysNone();
        daysSixty();
        daysBySeeds();
        daysByMinute119();
        daysOfNone();
        C.end();
    }

    private static void fraction(WrongWay x, String call, int answer, long above, long below) {
        C.due(call, answer, 1);
        C.due(call + " above", x.part(0), above);
        C.due(call + " below", x.part(1), below);
    }

    private static void notedFromZeroToFive() {
        C.about("NOTED 0 .. 5, as they come; FULL: 6");
        WrongWay x = Made.house(5, PLAIN, 0);
        C.due("count(3)", x.count(3), 0);
        for (int i = 1; i <= 6; i++) {
            C.due("note", x.note(0, 0, 0, 1), i);
            C.due("count(3)", x.count(3), i);
        }
        long before = x.digest();
        C.due("a seventh", x.note(0, 0, 0, 1), WrongWay.FULL);
        C.due("count(3)", x.count(3), 6);
        C.due("digest", x.digest(), before);
        C.due("STATUS", x.status(2), 1);
        C.due("forget", x.forget(), 6);
        C.due("there is room again", x.note(0, 0, 0, 1), 1);
    }

    private static void notedOfLiftsThereAre() {
        C.about("NOTED: LIFT k");
        WrongWay x = new WrongWay();
        C.due("of none", x.note(0, 0, 0, 0), WrongWay.BAD);
        x.lift(PLAIN, 0);
        x.lift(PLAIN, 0);
        C.due("lift -1", x.note(-1, 0, 0, 0), WrongWay.BAD);
        C.due("lift 0", x.note(0, 0, 0, 0), 1);
        C.due("lift 1", x.note(1, 0, 0, 0), 2);
        C.due("lift 2", x.note(2, 0, 0, 0), WrongWay.BAD);
        C.due("STATUS", x.status(0), 3);
        C.due("count(3)", x.count(3), 2);
    }

    private static void notedOnFloorsThereAre() {
        C.about("NOTED: FLOOR f");
        for (int f = 1; f <= 11; f += 5) {
            WrongWay x = Made.house(f, PLAIN, 0);
            C.due("floor -1", x.note(0, -1, 0, 0), WrongWay.BAD);
            C.due("floor 0", x.note(0, 0, 0, 0), 1);
            C.due("floor F", x.note(0, f, 0, 0), 2);
            C.due("floor F and 1", x.note(0, f + 1, 0, 0), WrongWay.BAD);
            C.due("STATUS", x.status(0), 2);
        }
    }

    private static void notedInMinutes0To99() {
        C.about("NOTED: MINUTE m (0 .. 99)");
        WrongWay x = Made.house(11, PLAIN, 0);
        C.due("m -1", x.note(0, 0, -1, 1), WrongWay.BAD);
        C.due("m 100", x.note(0, 0, 100, 1), WrongWay.BAD);
        C.due("count(3)", x.count(3), 0);
        C.due("m 0", x.note(0, 0, 0, 1), 1);
        // 99 by 22 left over is 11.
        C.due("m 99", x.note(0, 11, 99, 1), 2);
        C.due("PLAIN, ODD, EXPRESS", x.is(0, 0), 0b101001);
        C.due("STATUS", x.status(0), 2);
    }

    private static void notedThereOrNot() {
        C.about("NOTED: was (1), was not (0)");
        WrongWay x = Made.house(11, PLAIN, 0);
        C.due("there -1", x.note(0, 0, 0, -1), WrongWay.BAD);
        C.due("there 2", x.note(0, 0, 0, 2), WrongWay.BAD);
        x.note(0, 1, 1, 1);
        C.due("all but QUICK", x.is(0, 0), 0b111101);
        x.forget();
        x.note(0, 1, 1, 0);
        C.due("QUICK alone", x.is(0, 0), 0b000010);
        x.forget();
        x.note(0, 2, 1, 0);
        C.due("all but QUICK, by where it was not", x.is(0, 0), 0b111101);
    }

    private static void forgetTellsHowManyThereWere() {
        C.about("forget: how many there were");
        WrongWay x = Made.house(11, PLAIN, 0);
        C.due("none", x.forget(), 0);
        x.note(0, 0, 0, 0);
        C.due("one", x.forget(), 1);
        C.due("none again", x.forget(), 0);
        C.due("count(3)", x.count(3), 0);
        C.due("all kinds again", x.is(0, 0), 63);
    }

    private static void isOfNothingNoted() {
        C.about("IS of nothing NOTED: all KINDS");
        C.due("is", Made.house(11, PLAIN, 0).is(0, 0), 63);
        C.due("is in the least house", Made.house(1, EXPRESS, 99).is(0, 0), 63);
    }

    private static void isByItsOwnStart() {
        C.about("IS: its START as it is");
        // R is 22, 11, 26, 22, 28, 22: 30 by these left over is 8, 8, 4, 8, 2, 8; QUICK is on 6 then.
        WrongWay x = Made.house(11, PLAIN, 30);
        x.note(0, 8, 0, 1);
        C.due("on 8", x.is(0, 0), 0b101001);
        x.forget();
        x.note(0, 6, 0, 1);
        C.due("on 6", x.is(0, 0), 0b000010);
        x.forget();
        x.note(0, 4, 0, 1);
        C.due("on 4", x.is(0, 0), 0b000100);
        x.forget();
        x.note(0, 2, 0, 1);
        C.due("on 2", x.is(0, 0), 0b010000);
        x.forget();
        x.note(0, 3, 0, 1);
        C.due("on 3", x.is(0, 0), 0);
    }

    private static void isOfAnotherLift() {
        C.about("IS: all NOTED of it");
        WrongWay x = Made.house(11, PLAIN, 0, PLAIN, 0, PLAIN, 0);
        x.note(1, 5, 0, 1);
        C.due("of 0 nothing is noted", x.is(0, 0), 63);
        C.due("of 1 nothing fits", x.is(1, 0), 0);
        C.due("of 2 nothing is noted", x.is(2, 0), 63);
        C.due("starts of 0", x.is(0, 1), 100);
        C.due("look of 0 is not none", x.look(0, 5), Made.house(11, PLAIN, 0).look(0, 5));
        C.due("look of 1", x.look(1, 5), WrongWay.NONE);
    }

    private static void isOfNoKind() {
        C.about("IS: no KIND");
        WrongWay x = Made.house(11, PLAIN, 0);
        x.note(0, 0, 0, 1);
        x.note(0, 0, 0, 0);
        C.due("is", x.is(0, 0), 0);
        C.due("starts", x.is(0, 1), 0);
        C.due("STATUS", x.status(0) + x.status(1) + x.status(2), 0);
    }

    private static void isOfSixNoted() {
        C.about("IS: all six NOTED count");
        WrongWay x = Made.house(11, PLAIN, 0);
        for (int m = 0; m < 5; m++) {
            x.note(0, 11, m, 0);
        }
        C.due("five", x.is(0, 0), 63);
        x.note(0, 11, 12, 1);
        C.due("the sixth", x.is(0, 0), 0b010000);
        x.forget();
        x.note(0, 11, 12, 1);
        for (int m = 0; m < 5; m++) {
            x.note(0, 11, m, 0);
        }
        C.due("the first", x.is(0, 0), 0b010000);
    }

    private static void isThoughItCanNotBeTaken() {
        C.about("NOTED asks for the FLOOR alone");
        WrongWay x = Made.house(11, EXPRESS, 0);
        x.note(0, 2, 2, 1);
        C.due("is", x.is(0, 0), 0b111101);
        C.due("starts", x.is(0, 1), 9);
    }

    private static void isWhat() {
        C.about("is: what 0, 1");
        WrongWay x = Made.house(11, PLAIN, 0);
        C.due("what -1", x.is(0, -1), WrongWay.BAD);
        C.due("what 0", x.is(0, 0), 63);
        C.due("what 1", x.is(0, 1), 100);
        C.due("what 2", x.is(0, 2), WrongWay.BAD);
        C.due("STATUS", x.status(0), 2);
    }

    private static void startsAll() {
        C.about("STARTS: all 100");
        C.due("nothing noted", Made.house(11, LATE, 7).is(0, 1), 100);
        WrongWay x = Made.house(1, QUICK, 0);
        x.note(0, 0, 50, 1);
        x.note(0, 1, 99, 0);
        C.due("one that never goes", x.is(0, 1), 100);
    }

    private static void startsNone() {
        C.about("STARTS: none");
        WrongWay x = Made.house(1, QUICK, 0);
        x.note(0, 1, 0, 1);
        C.due("one that never goes", x.is(0, 1), 0);
        WrongWay y = Made.house(11, QUICK, 0);
        y.note(0, 3, 0, 1);
        C.due("QUICK is never on 3", y.is(0, 1), 0);
    }

    private static void startsFirstAndLast() {
        C.about("STARTS: START 0 .. 99");
        WrongWay x = Made.house(11, PLAIN, 0);
        x.note(0, 0, 0, 1);
        // 0, 22, 44, 66, 88.
        C.due("START 0 counts", x.is(0, 1), 5);
        x.forget();
        x.note(0, 11, 0, 1);
        // 11, 33, 55, 77, 99.
        C.due("START 99 counts", x.is(0, 1), 5);
        x.forget();
        x.note(0, 10, 0, 1);
        // 10, 32, 54, 76, 98 and 12, 34, 56, 78; 100 is none.
        C.due("START 100 does not", x.is(0, 1), 9);
    }

    private static void startsByItsOwnKind() {
        C.about("STARTS: its KIND as it is");
        // On 11 in minute 0: places 11 of 22, none of QUICK's, 11 of 26, 11 to 13 of 28.
        int[] due = {5, 0, 4, 5, 12, 5};
        for (int kind = 0; kind <= 5; kind++) {
            WrongWay x = Made.house(11, kind, 50);
            x.note(0, 11, 0, 1);
            C.due("kind " + kind, x.is(0, 1), due[kind]);
        }
    }

    private static void notedOverlastTheMinute() {
        C.about("NOTED and the minute now");
        WrongWay x = Made.house(11, PLAIN, 0);
        x.note(0, 1, 1, 1);
        x.passes(50);
        C.due("is", x.is(0, 0), 0b111101);
        x.undo();
        C.due("undo leaves them", x.count(3), 1);
        x.lift(ODD, 0);
        C.due("a lift leaves them", x.count(3), 1);
        x.line(0, 1, 0);
        C.due("a line leaves them", x.count(3), 1);
    }

    private static void lookInMinutes0To30() {
        C.about("LOOK: the MINUTE (0 .. 30)");
        // F 3: three of six are below in place 0 of 6, 3, 10, 6, 12, 6 only where RESTS, LATE rest.
        C.due("the last one", Made.house(3, PLAIN, 27).look(0, 0), 30);
        C.due("the last but one", Made.house(3, PLAIN, 28).look(0, 0), 29);
        C.due("31 is none: the first of those that are less good", Made.house(3, PLAIN, 26).look(0, 0), 1);
        C.due("the first one", Made.house(3, PLAIN, 57).look(0, 0), 0);
    }

    private static void lookOfLikeOnesTheFirst() {
        C.about("LOOK: of like ones the first");
        WrongWay x = Made.house(11, PLAIN, 0);
        x.note(0, 0, 22, 1);
        // PLAIN, QUICK, RESTS, ODD, EXPRESS are below in 22, LATE is on 2: 0b101111.
        C.due("kinds", x.is(0, 0), 0b101111);
        // On 1 in minute 1 all but QUICK: 4; in 2 QUICK on 4, the others on 2: 5. In 21 all but QUICK, in
        // 23 PLAIN, ODD, EXPRESS: 3 of 5, and 2.
        C.due("on 1", x.look(0, 1), 23);
        C.due("on 11, none is parted so well", x.look(0, 11), 11);
        WrongWay y = Made.house(11, PLAIN, 0);
        y.note(0, 1, 1, 1);
        y.note(0, 0, 22, 1);
        y.note(0, 0, 23, 0);
        C.due("PLAIN, ODD, EXPRESS", y.is(0, 0), 0b101001);
        C.due("no minute parts them", y.look(0, 5), 0);
    }

    private static void lookOfOneKind() {
        C.about("LOOK: one KIND alone");
        WrongWay x = Made.house(11, PLAIN, 0);
        x.note(0, 1, 1, 0);
        C.due("kinds", x.is(0, 0), 0b000010);
        for (int f = 0; f <= 11; f++) {
            C.due("look", x.look(0, f), 0);
        }
    }

    private static void lookNone() {
        C.about("LOOK: none, no KIND");
        WrongWay x = Made.house(11, PLAIN, 0);
        x.note(0, 0, 0, 0);
        for (int f = 0; f <= 11; f++) {
            C.due("look", x.look(0, f), WrongWay.NONE);
        }
        C.due("floor 12", x.look(0, 12), WrongWay.BAD);
        C.due("floor -1", x.look(0, -1), WrongWay.BAD);
        C.due("lift 1", x.look(1, 0), WrongWay.BAD);
        C.due("lift -1", x.look(-1, 0), WrongWay.BAD);
        C.due("STATUS", x.status(0), 4);
        x.forget();
        // In 21 all but QUICK and LATE are on 1, in 23 all but QUICK and RESTS: of like ones the first.
        C.due("nothing noted", x.look(0, 1), 21);
    }

    private static void lookTheGreaterPart() {
        C.about("LOOK: there or not, the greater part is least");
        // All six: below 0 at 0 all; on 11: PLAIN, RESTS, ODD, LATE, EXPRESS in 11, LATE in 12, 13.
        WrongWay x = Made.house(11, PLAIN, 0);
        // Below, in 24: RESTS, LATE; 22: all but LATE; 23: RESTS; 24: 4 are left; 25: 4; 26: RESTS, LATE.
        C.due("below", x.look(0, 0), 24);
        // Two kinds: the first minute in which one is there and one is not.
        WrongWay y = Made.house(11, PLAIN, 0);
        y.note(0, 0, 24, 1);
        C.due("RESTS, LATE", y.is(0, 0), 0b010100);
        C.due("on 11", y.look(0, 11), 12);
        C.due("on 10", y.look(0, 10), 12);
        C.due("on 0", y.look(0, 0), 22);
        C.due("on 5", y.look(0, 5), 17);
    }

    private static void portersTakeNone() {
        C.about("PORTERS: 0 of 10");
        WrongWay x = Made.house(5, PLAIN, 0, PLAIN, 1, PLAIN, 2, PLAIN, 3);
        fraction(x, "one comes", x.porters(0, 0, 0, 0), 1, 1);
        fraction(x, "none in time", x.porters(5, 0, 1, 0), 0, 1);
        C.due("c -1", x.porters(0, 0, 0, -1), WrongWay.BAD);
        C.due("STATUS", x.status(0), 1);
    }

    private static void portersTakeAll() {
        C.about("PORTERS: 10 of 10");
        WrongWay x = Made.house(5, PLAIN, 0, PLAIN, 1, PLAIN, 2, PLAIN, 3);
        x.porters(0, 0, 200, 3);
        fraction(x, "all are taken", x.porters(0, 0, 200, 10), 0, 1);
        C.due("c 11", x.porters(0, 0, 200, 11), WrongWay.BAD);
        C.due("STATUS", x.status(0), 1);
        C.due("THE FRACTION stays", x.part(1), 1);
    }

    private static void portersOfNoLift() {
        C.about("PORTERS of no LIFT");
        WrongWay x = new WrongWay();
        x.lines();
        fraction(x, "none comes", x.porters(0, 0, 200, 0), 0, 1);
        WrongWay y = Made.house(5, EXPRESS, 0);
        fraction(y, "none that can be taken", y.porters(3, 0, 200, 0), 0, 1);
        C.due("no refusal", y.status(0) + y.status(1), 0);
    }

    private static void portersWaitNOrLess() {
        C.about("PORTERS: n MINUTES or less");
        WrongWay x = Made.house(5, PLAIN, 0);
        fraction(x, "2 for 3", x.porters(3, 0, 2, 4), 0, 1);
        fraction(x, "3 for 3", x.porters(3, 0, 3, 4), 3, 5);
        fraction(x, "4 for 3", x.porters(3, 0, 4, 4), 3, 5);
        fraction(x, "0 in the minute itself", x.porters(3, 3, 0, 4), 3, 5);
        fraction(x, "3 for 3 past it", x.porters(3, 4, 3, 4), 3, 5);
        fraction(x, "2 for 3 past it", x.porters(3, 4, 2, 4), 0, 1);
    }

    private static void portersWait0To200() {
        C.about("PORTERS: n (0 .. 200)");
        WrongWay x = Made.house(11, PLAIN, 0);
        C.due("n -1", x.porters(0, 0, -1, 5), WrongWay.BAD);
        fraction(x, "n 0", x.porters(0, 0, 0, 5), 1, 2);
        fraction(x, "n 200", x.porters(11, 12, 200, 5), 1, 2);
        C.due("n 201", x.porters(0, 0, 201, 5), WrongWay.BAD);
        fraction(x, "n 20", x.porters(11, 12, 20, 5), 0, 1);
        fraction(x, "n 21", x.porters(11, 12, 21, 5), 1, 2);
        C.due("STATUS", x.status(0), 2);
    }

    private static void portersInMinutes0To999() {
        C.about("PORTERS in MINUTE m (0 .. 999)");
        WrongWay x = Made.house(11, PLAIN, 0);
        C.due("m -1", x.porters(0, -1, 0, 5), WrongWay.BAD);
        fraction(x, "m 0", x.porters(0, 0, 0, 5), 1, 2);
        // 999 is place 9.
        fraction(x, "m 999", x.porters(9, 999, 0, 9), 1, 10);
        fraction(x, "m 999, behind it", x.porters(8, 999, 5, 9), 1, 10);
        fraction(x, "m 999, too soon", x.porters(8, 999, 4, 9), 0, 1);
        C.due("m 1000", x.porters(0, 1000, 0, 5), WrongWay.BAD);
        C.due("STATUS", x.status(0), 2);
    }

    private static void portersOfFour() {
        C.about("PORTERS: each LIFT, apart");
        WrongWay x = Made.house(5, PLAIN, 0, QUICK, 0, RESTS, 0, EXPRESS, 0);
        fraction(x, "by 1", x.porters(0, 0, 0, 1), 9999, 10000);
        fraction(x, "by 3", x.porters(0, 0, 0, 3), 9919, 10000);
        fraction(x, "by 9", x.porters(0, 0, 0, 9), 3439, 10000);
        // On 2 in minute 1 QUICK, in 2 PLAIN and RESTS, never EXPRESS.
        fraction(x, "one of them", x.porters(2, 0, 1, 3), 7, 10);
        fraction(x, "three of them", x.porters(2, 0, 2, 3), 973, 1000);
        fraction(x, "lowest terms", x.porters(2, 0, 2, 8), 61, 125);
    }

    private static void daysNone() {
        C.about("DAYS: n 0");
        WrongWay x = Made.house(5, PLAIN, 0);
        C.due("n -1", x.days(0, 0, -1), WrongWay.BAD);
        C.due("n 0", x.days(0, 0, 0), 0);
        C.due("n 1", x.days(0, 0, 1), 1);
        C.due("STATUS", x.status(0), 1);
    }

    private static void daysSixty() {
        C.about("DAYS: n 60");
        WrongWay x = Made.house(5, PLAIN, 0);
        C.due("below all go UP", x.days(0, 7, 60), 60);
        C.due("above none goes UP", x.days(5, 7, 60), 0);
        C.due("n 61", x.days(0, 7, 61), WrongWay.BAD);
        C.due("STATUS", x.status(0), 1);
    }

    /** X by numbers without bound; the way of each day by first, which has tests of its own. */
    private static int daysByHand(WrongWay x, int f, int seed, int n) {
        BigInteger number = BigInteger.valueOf(seed);
        int ups = 0;
        for (int day = 0; day < n; day++) {
            number = number.multiply(BigInteger.valueOf(1103515245)).add(BigInteger.valueOf(12345))
                    .mod(BigInteger.TWO.pow(31));
            int minute = number.divide(BigInteger.valueOf(65536)).mod(BigInteger.valueOf(120)).intValue();
            ups += x.first(f, minute, 1) == 1 ? 1 : 0;
        }
        return ups;
    }

    private static void daysBySeeds() {
        C.about("DAYS by a SEED (0 .. 999999)");
        int[] seeds = {0, 1, 2, 1000, 65535, 65536, 524288, 999998, 999999};
        for (int seed : seeds) {
            for (int n = 0; n <= 60; n += 20) {
                WrongWay x = Made.house(11, PLAIN, 3, RESTS, 50);
                int due = daysByHand(x, 3, seed, n);
                C.due("days(3, " + seed + ", " + n + ")", x.days(3, seed, n), due);
            }
        }
        WrongWay x = Made.house(11, PLAIN, 0);
        C.due("seed -1", x.days(0, -1, 1), WrongWay.BAD);
        C.due("seed 1000000", x.days(0, 1000000, 1), WrongWay.BAD);
        C.due("STATUS", x.status(0), 2);
        // X by 65536, cut, is 16838, 5758, 10113, 17515, 31051: minutes 38, 118, 33, 115, 91, places 16, 8,
        // 11, 5, 3: only from the last it comes UP on 3.
        C.due("four days", x.days(3, 1, 4), 0);
        C.due("five days", x.days(3, 1, 5), 1);
    }

    private static void daysByMinute119() {
        C.about("DAYS: by 120 left over");
        // A seed each whose first day is minute 0 and 119; PLAIN is on 1 in the minute itself or not.
        for (int seed = 0; seed < 3000; seed++) {
            long number = (seed * 1103515245L + 12345) & 0x7fffffffL;
            long minute = (number >> 16) % 120;
            if (minute == 0 || minute == 119 || minute == 118) {
                WrongWay x = Made.house(5, PLAIN, 2);
                // Minute 0 is place 2: it comes DOWN on 1; 119 is place 1: UP; 118 is place 0: UP.
                C.due("seed " + seed, x.days(1, seed, 1), minute == 0 ? 0 : 1);
            }
        }
    }

    private static void daysOfNone() {
        C.about("DAYS where none COMES");
        C.due("no lift", new WrongWay().days(0, 1, 60), 0);
        C.due("EXPRESS", Made.house(5, EXPRESS, 0).days(2, 1, 60), 0);
        C.due("one that never goes", Made.house(1, QUICK, 0).days(0, 1, 60), 0);
    }
}
