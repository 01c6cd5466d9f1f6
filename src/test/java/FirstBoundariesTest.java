/**
 * What comes first, promises 12 to 18: a test of its own for each sentence that names a boundary case.
 * Answers are worked out by hand.
 */
public final class FirstBoundariesTest {
    private static final Check C = new Check();
    private static final int PLAIN = 0;
    private static final int QUICK = 1;
    private static final int RESTS = 2;
    private static final int ODD = 3;
    private static final int LATE = 4;
    private static final int EXPRESS = 5;

    public static void main(String[] args) {
        nothingIsChanged();
        theMinuteNowIsNotAsked();
        firstInMinutes0To999();
        firstOfNone();
        firstWhat();
        oftenOverMinutes0To119();
        oftenOfAllAndOfNone();
        waitWithoutWaiting();
        oftenNoForNone();
        oftenByTheLeastLift();
        ownOthersLeftOut();
        ownOverMinutes0To119();
        ownNoForNone();
        ownOfOneThatNeverGoes();
        rideToTheSameFloor();
        rideNone();
        rideStaysInTheFirst();
        rideTillItCanBeTaken();
        rideByTheRight();
        rideInMinute999();
        walkTheOwnFloor();
        walkAllTheWay();
        walkTwoMinutesEach();
        walkOfLikeOnesTheLeastWalk();
        walkThenTheLowerFloor();
        walkWhereNoneComes();
        walkInMinute999();
        linesInThatMinuteToo();
        linesOfLikeOnesLine0();
        linesOverMinutes0To59();
        linesNoneAheadOfAt();
        linesLeastAndGreatest();
        evenShift0();
        evenShift29();
        evenBy30LeftOver();
        evenOfLikeOnesTheLeast();
        evenWhereAtIsTheFirstOne();
        evenLeavesTheLines();
        C.end();
    }

    private static void fraction(WrongWay x, String call, int answer, long above, long below) {
        C.due(call, answer, 1);
        C.due(call + " above", x.part(0), above);
        C.due(call + " below", x.part(1), below);
    }

    private static void nothingIsChanged() {
        C.about("(Nothing is changed by these.)");
        WrongWay x = Made.furnished();
        WrongWay like = Made.furnished();
        long before = x.digest();
        x.of(0, 3);
        x.where(0, 999);
        x.first(3, 4, 0);
        x.ride(1, 5, 7, 0);
        x.ride(1, 5, 7, 1);
        x.walk(4, 0, 9, 0);
        x.even();
        x.is(0, 0);
        x.is(0, 1);
        x.look(1, 2);
        x.days(3, 5, 60);
        x.count(2);
        x.part(0);
        x.status(0);
        C.due("digest", x.digest(), before);
        x.often(1, 0);
        x.often(1, 1);
        x.own(1, 1);
        x.lines();
        // The same fraction as furnished() left.
        x.porters(0, 0, 200, 3);
        C.due("digest but for THE FRACTION", x.digest(), before);
        for (int what = 0; what <= 2; what++) {
            C.due("status(" + what + ")", x.status(what), like.status(what));
        }
        C.holds("all stays", Made.allOf(x).equals(Made.allOf(like)));
    }

    private static void theMinuteNowIsNotAsked() {
        C.about("MINUTES as told, whatever the MINUTE is");
        WrongWay x = Made.house(11, PLAIN, 4, LATE, 50, ODD, 9);
        WrongWay later = Made.house(11, PLAIN, 4, LATE, 50, ODD, 9);
        later.passes(13);
        C.holds("they are elsewhere", later.of(0, 3) != x.of(0, 3));
        for (int f = 0; f <= 11; f += 3) {
            C.due("where", later.where(0, f), x.where(0, f));
            for (int what = 0; what <= 2; what++) {
                C.due("first", later.first(f, 7, what), x.first(f, 7, what));
            }
            for (int what = 0; what <= 1; what++) {
                C.due("ride", later.ride(f, 5, 7, what), x.ride(f, 5, 7, what));
                C.due("walk", later.walk(f, 5, 7, what), x.walk(f, 5, 7, what));
                C.due("often", later.often(f, what), x.often(f, what));
                C.due("above", later.part(0), x.part(0));
                C.due("own", later.own(f, what), x.own(f, what));
                C.due("above", later.part(0), x.part(0));
            }
            C.due("porters", later.porters(f, 7, 5, 3), x.porters(f, 7, 5, 3));
            C.due("above", later.part(0), x.part(0));
            C.due("days", later.days(f, 8, 30), x.days(f, 8, 30));
            C.due("look", later.look(1, f), x.look(1, f));
            C.due("note", later.note(2, f, 9, 0), x.note(2, f, 9, 0));
            C.due("kinds", later.is(2, 0), x.is(2, 0));
            C.due("starts", later.is(2, 1), x.is(2, 1));
        }
        C.due("lines", later.lines(), x.lines());
        C.due("above", later.part(0), x.part(0));
        C.due("even", later.even(), x.even());
    }

    private static void firstInMinutes0To999() {
        C.about("FIRST in MINUTE m (0 .. 999)");
        WrongWay x = Made.house(11, PLAIN, 0);
        C.due("m -1", x.first(4, -1, 2), WrongWay.BAD);
        C.due("m 0", x.first(4, 0, 2), 4);
        C.due("m 999", x.first(4, 999, 2), 9);
        C.due("m 1000", x.first(4, 1000, 2), WrongWay.BAD);
        C.due("STATUS", x.status(0), 2);
        x.passes(99);
        C.due("the minute now is not asked", x.first(4, 0, 2), 4);
    }

    private static void firstOfNone() {
        C.about("FIRST: none");
        WrongWay none = new WrongWay();
        WrongWay express = Made.house(11, EXPRESS, 0, EXPRESS, 5);
        WrongWay quick = Made.house(10, QUICK, 0);
        for (int what = 0; what <= 2; what++) {
            C.due("no lift", none.first(0, 0, what), WrongWay.NONE);
            C.due("EXPRESS on 1", express.first(1, 0, what), WrongWay.NONE);
            C.due("EXPRESS on 10", express.first(10, 999, what), WrongWay.NONE);
            C.due("QUICK on 9", quick.first(9, 500, what), WrongWay.NONE);
        }
        C.due("STATUS", none.status(0) + none.status(1) + none.status(2), 0);
    }

    private static void firstWhat() {
        C.about("first: LIFT (0), WAY (1), MINUTES (2)");
        WrongWay x = Made.house(11, EXPRESS, 0, PLAIN, 20);
        C.due("what -1", x.first(2, 0, -1), WrongWay.BAD);
        C.due("what 0", x.first(2, 1, 0), 1);
        C.due("what 1", x.first(2, 1, 1), 1);
        C.due("what 2", x.first(2, 1, 2), 3);
        C.due("what 3", x.first(2, 0, 3), WrongWay.BAD);
        C.due("STATUS", x.status(0), 2);
        C.due("what 0 of one that goes DOWN", x.first(2, 5, 0), 1);
        C.due("what 1 of one that goes DOWN", x.first(2, 5, 1), 0);
        C.due("what 2 of one that goes DOWN", x.first(2, 5, 2), 17);
    }

    private static void oftenOverMinutes0To119() {
        C.about("MINUTES 0 to 119, each alike likely");
        // A round's waits below are 0 and 21 .. 1: 231; five rounds, then 0 and 21 .. 13 in 110 to 119.
        WrongWay x = Made.house(11, PLAIN, 0);
        fraction(x, "WAIT below", x.often(0, 1), 109, 10);
        // On 3 it comes UP if one comes in places 20, 21, 0 to 3, six of 22; in 110 to 119 in four: 34.
        fraction(x, "HOW OFTEN on 3", x.often(3, 0), 17, 60);
        // From 11 on 110 to 119 are places 11 to 20, the last alone is one of the six: 31.
        WrongWay y = Made.house(11, PLAIN, 11);
        fraction(y, "HOW OFTEN on 3, minute 119 counts", y.often(3, 0), 31, 120);
        // From 10 on they are places 10 to 19, none is one of the six: minute 120 would be the first.
        WrongWay z = Made.house(11, PLAIN, 10);
        fraction(z, "HOW OFTEN on 3, minute 120 does not", z.often(3, 0), 1, 4);
        // From 3 on minute 0 is the last of the six; 110 to 119 are places 3 to 12: 31.
        WrongWay w = Made.house(11, PLAIN, 3);
        fraction(w, "HOW OFTEN on 3, minute 0 counts", w.often(3, 0), 31, 120);
    }

    private static void oftenOfAllAndOfNone() {
        C.about("HOW OFTEN: always, never");
        WrongWay x = Made.house(5, PLAIN, 3, LATE, 9);
        fraction(x, "below", x.often(0, 0), 1, 1);
        fraction(x, "above", x.often(5, 0), 0, 1);
        WrongWay y = Made.house(1, QUICK, 0);
        fraction(y, "one that never goes", y.often(0, 0), 0, 1);
    }

    private static void waitWithoutWaiting() {
        C.about("WAIT: no wait at all");
        WrongWay x = Made.house(1, QUICK, 0);
        fraction(x, "one that never goes", x.often(0, 1), 0, 1);
        WrongWay y = Made.house(1, PLAIN, 0, PLAIN, 1);
        fraction(y, "one below, one above", y.often(0, 1), 0, 1);
        fraction(y, "one above, one below", y.often(1, 1), 0, 1);
        WrongWay z = Made.house(1, PLAIN, 0);
        fraction(z, "every second minute", z.often(1, 1), 1, 2);
    }

    private static void oftenNoForNone() {
        C.about("often: NO for none");
        WrongWay x = Made.house(4, ODD, 0, EXPRESS, 3);
        fraction(x, "EXPRESS above", x.often(4, 1), 7, 2);
        for (int what = 0; what <= 1; what++) {
            C.due("on 2", x.often(2, what), WrongWay.NO);
            C.due("STATUS", x.status(1), what + 1);
            C.due("THE FRACTION above", x.part(0), 7);
            C.due("THE FRACTION below", x.part(1), 2);
        }
        x.lift(PLAIN, 0);
        C.due("one that stops there", x.often(2, 0), 1);
    }

    private static void oftenByTheLeastLift() {
        C.about("HOW OFTEN: of like ones the least LIFT");
        // Both are on 1 in the odd minutes, in half of them one UP, one DOWN.
        WrongWay x = Made.house(2, PLAIN, 0, PLAIN, 2);
        fraction(x, "on 1", x.often(1, 0), 1, 2);
        WrongWay y = Made.house(2, PLAIN, 0);
        fraction(y, "lift 0 alone", y.often(1, 0), 1, 2);
        // In even minutes PLAIN is below and goes UP, in odd ones QUICK alone is there.
        WrongWay z = Made.house(1, PLAIN, 0, QUICK, 0);
        fraction(z, "PLAIN UP, QUICK never goes", z.often(0, 0), 1, 2);
        WrongWay w = Made.house(1, QUICK, 0, PLAIN, 0);
        fraction(w, "QUICK ahead of PLAIN", w.often(0, 0), 0, 1);
    }

    private static void ownOthersLeftOut() {
        C.about("OWN: the first one going a way told, others left out");
        // On 1 in minutes 1, 5, 9 .. UP, in 3, 7 .. DOWN: one waits 1, 0, 3, 2 for UP and 3, 2, 1, 0.
        WrongWay x = Made.house(2, PLAIN, 0);
        fraction(x, "UP", x.own(1, 1), 3, 2);
        fraction(x, "DOWN", x.own(1, 0), 3, 2);
        fraction(x, "any", x.often(1, 1), 1, 2);
        // A like one that goes the other way does not hide it.
        WrongWay y = Made.house(2, PLAIN, 0, PLAIN, 2);
        fraction(y, "UP by either", y.own(1, 1), 1, 2);
        fraction(y, "DOWN by either", y.own(1, 0), 1, 2);
    }

    private static void ownOverMinutes0To119() {
        C.about("OWN over MINUTES 0 to 119");
        // For UP on 3 a round's waits are 231; of places 0 to 9 3, 2, 1, 0, 21 .. 16: 117. 1272 by 120.
        WrongWay x = Made.house(11, PLAIN, 0);
        fraction(x, "UP on 3", x.own(3, 1), 53, 5);
        // For DOWN on 3, place 19: of places 0 to 9 19 .. 10: 145. 1300 by 120.
        fraction(x, "DOWN on 3", x.own(3, 0), 65, 6);
    }

    private static void ownNoForNone() {
        C.about("own: NO for none");
        // A round's waits are 0 and 7 .. 1, in fifteen rounds of 8.
        WrongWay x = Made.house(4, PLAIN, 0);
        fraction(x, "UP below", x.own(0, 1), 7, 2);
        x.lift(RESTS, 0);
        x.lift(LATE, 0);
        C.due("DOWN below", x.own(0, 0), WrongWay.NO);
        C.due("UP above", x.own(4, 1), WrongWay.NO);
        C.due("STATUS", x.status(1), 2);
        C.due("THE FRACTION above", x.part(0), 7);
        C.due("THE FRACTION below", x.part(1), 2);
        C.due("way -1", x.own(0, -1), WrongWay.BAD);
        C.due("way 2", x.own(0, 2), WrongWay.BAD);
        C.due("STATUS", x.status(0), 2);
    }

    private static void ownOfOneThatNeverGoes() {
        C.about("OWN of one that never goes: DOWN");
        WrongWay x = Made.house(1, QUICK, 0);
        C.due("UP", x.own(0, 1), WrongWay.NO);
        fraction(x, "DOWN", x.own(0, 0), 0, 1);
        C.due("on 1, UP", x.own(1, 1), WrongWay.NO);
        C.due("on 1, DOWN", x.own(1, 0), WrongWay.NO);
    }

    private static void rideToTheSameFloor() {
        C.about("RIDE: the same, 0 MINUTES");
        WrongWay none = new WrongWay();
        WrongWay express = Made.house(11, EXPRESS, 0);
        for (int f = 0; f <= 11; f++) {
            for (int what = 0; what <= 1; what++) {
                C.due("no lift", none.ride(f, f, 999, what), 0);
                C.due("EXPRESS", express.ride(f, f, 0, what), 0);
            }
        }
    }

    private static void rideNone() {
        C.about("RIDE: none");
        WrongWay none = new WrongWay();
        C.due("no lift", none.ride(0, 11, 0, 0), WrongWay.NONE);
        C.due("no lift, by the right", none.ride(11, 0, 0, 1), WrongWay.NONE);
        WrongWay express = Made.house(11, EXPRESS, 0);
        C.due("from where it can not be taken", express.ride(1, 11, 0, 0), WrongWay.NONE);
        C.due("to where it can not be taken", express.ride(0, 10, 0, 0), WrongWay.NONE);
        C.due("from 0 to 11", express.ride(0, 11, 0, 0), 11);
        C.due("the same by the right", express.ride(0, 11, 0, 1), 11);
        C.due("to where it can not be taken, by the right", express.ride(0, 10, 0, 1), WrongWay.NONE);
        WrongWay still = Made.house(1, QUICK, 0);
        C.due("one that never goes", still.ride(0, 1, 0, 0), WrongWay.NONE);
        C.due("by the right it goes DOWN", still.ride(0, 1, 0, 1), WrongWay.NONE);
        C.due("STATUS", none.status(0) + none.status(1) + none.status(2), 0);
    }

    private static void rideStaysInTheFirst() {
        C.about("RIDE by the first LIFT that COMES, staying in it");
        // In minute 0 EXPRESS is on 0; PLAIN would come there a minute later and go to 3.
        WrongWay x = Made.house(6, EXPRESS, 0, PLAIN, 11);
        C.due("the first can not be left on 3", x.ride(0, 3, 0, 0), WrongWay.NONE);
        C.due("a minute later PLAIN is the first", x.ride(0, 3, 1, 0), 3);
        C.due("EXPRESS goes to 6", x.ride(0, 6, 0, 0), 6);
        // Of like ones the least is taken, though the other would be there sooner.
        WrongWay y = Made.house(6, PLAIN, 4, PLAIN, 8);
        C.due("UP first, then down", y.ride(4, 0, 0, 0), 8);
        C.due("DOWN, by the right", y.ride(4, 0, 0, 1), 4);
        WrongWay z = Made.house(6, PLAIN, 8, PLAIN, 4);
        C.due("DOWN, told first", z.ride(4, 0, 0, 0), 4);
    }

    private static void rideTillItCanBeTaken() {
        C.about("RIDE: till it is on that FLOOR and can be taken there");
        WrongWay odd = Made.house(6, ODD, 0);
        C.due("past 2 to 3", odd.ride(1, 3, 1, 0), 2);
        C.due("not to 2", odd.ride(1, 2, 1, 0), WrongWay.NONE);
        C.due("not to 6, the last", odd.ride(1, 6, 1, 0), WrongWay.NONE);
        C.due("taken along over 6", odd.ride(3, 1, 3, 0), 8);
        C.due("waiting for it too", odd.ride(3, 1, 1, 0), 10);
    }

    private static void rideByTheRight() {
        C.about("BY THE RIGHT: UP, if that FLOOR is higher");
        WrongWay x = Made.house(6, PLAIN, 0);
        // On 3 in minutes 3 (UP), 9 (DOWN), 15 (UP).
        C.due("up, at once", x.ride(3, 4, 3, 1), 1);
        C.due("down, waiting for it", x.ride(3, 2, 3, 1), 7);
        C.due("down, taken along", x.ride(3, 2, 3, 0), 7);
        C.due("up, waiting for it", x.ride(3, 4, 4, 1), 12);
        C.due("up, taken along", x.ride(3, 4, 4, 0), 12);
        C.due("from below", x.ride(0, 6, 0, 1), 6);
        C.due("from above", x.ride(6, 0, 6, 1), 6);
        WrongWay late = Made.house(3, LATE, 0);
        C.due("from above in its stand", late.ride(3, 0, 5, 1), 3);
        C.due("from below in its rest", late.ride(0, 3, 8, 1), 7);
        // QUICK is never on an odd floor; one stays in it all the same.
        WrongWay y = Made.house(6, QUICK, 1, PLAIN, 0);
        C.due("taken along, never there", y.ride(2, 1, 0, 0), WrongWay.NONE);
        C.due("by the right QUICK is the first, too", y.ride(2, 1, 3, 1), WrongWay.NONE);
        C.due("what -1", x.ride(0, 1, 0, -1), WrongWay.BAD);
        C.due("what 2", x.ride(0, 1, 0, 2), WrongWay.BAD);
    }

    private static void rideInMinute999() {
        C.about("RIDE in MINUTE 0 .. 999");
        WrongWay x = Made.house(6, PLAIN, 0);
        // 999 is place 3.
        C.due("m 0", x.ride(3, 6, 0, 0), 6);
        C.due("m 999", x.ride(3, 6, 999, 0), 3);
        C.due("m 999, the wrong way", x.ride(3, 0, 999, 0), 9);
        C.due("m -1", x.ride(3, 6, -1, 0), WrongWay.BAD);
        C.due("m 1000", x.ride(3, 6, 1000, 0), WrongWay.BAD);
    }

    private static void walks(WrongWay x, int f, int to, int m, int floor, int minutes) {
        String call = "walk(" + f + ", " + to + ", " + m + ", ";
        C.due(call + "0)", x.walk(f, to, m, 0), floor);
        C.due(call + "1)", x.walk(f, to, m, 1), minutes);
    }

    private static void walkTheOwnFloor() {
        C.about("WALK: the own FLOOR, too");
        WrongWay x = Made.house(11, PLAIN, 0);
        walks(x, 0, 11, 0, 0, 11);
        walks(x, 5, 5, 0, 5, 0);
        walks(x, 0, 0, 3, 0, 0);
        walks(x, 11, 11, 3, 11, 0);
        walks(new WrongWay(), 7, 7, 0, 7, 0);
    }

    private static void walkAllTheWay() {
        C.about("WALK: that one, too");
        WrongWay x = Made.house(11, PLAIN, 0);
        // Just gone: 2 minutes on foot.
        walks(x, 5, 6, 6, 6, 2);
        walks(x, 5, 4, 6, 4, 2);
        walks(x, 0, 1, 1, 1, 2);
    }

    private static void walkTwoMinutesEach() {
        C.about("WALK: 2 MINUTES each");
        WrongWay x = Made.house(11, EXPRESS, 20);
        // EXPRESS is on 0 in minute 2: one that is a floor off just catches it; two floors off it is gone.
        walks(x, 1, 11, 0, 0, 13);
        walks(x, 2, 11, 0, 11, 18);
        walks(x, 2, 10, 0, 10, 16);
        // Up to the last floor, and down from there.
        walks(Made.house(11, EXPRESS, 9), 10, 0, 0, 11, 13);
        // Just gone: all the way on foot.
        walks(Made.house(11, EXPRESS, 0), 11, 0, 12, 0, 22);
    }

    private static void walkOfLikeOnesTheLeastWalk() {
        C.about("WALK: of like ones the least walk");
        WrongWay x = Made.house(11, PLAIN, 0);
        // From 4, 3 or 5 one is there in minute 11.
        walks(x, 4, 11, 0, 4, 11);
        // A ride of 2 minutes, a walk of 2.
        walks(Made.house(11, PLAIN, 20), 1, 0, 0, 1, 2);
        walks(Made.house(11, PLAIN, 4), 5, 6, 0, 5, 2);
    }

    private static void walkThenTheLowerFloor() {
        C.about("WALK: of like ones then the lower FLOOR");
        WrongWay x = Made.house(11, ODD, 0);
        // On 4 none can be taken; from 3 as from 5 one is on 11 in minute 11.
        walks(x, 4, 11, 0, 3, 11);
        // Downwards, too: it is on 9 in minute 2, on 7 in minute 4, on 0 in minute 11.
        walks(Made.house(11, ODD, 11), 8, 0, 0, 7, 11);
    }

    private static void walkWhereNoneComes() {
        C.about("WALK where none COMES");
        WrongWay none = new WrongWay();
        walks(none, 0, 11, 0, 11, 22);
        walks(none, 11, 0, 999, 0, 22);
        walks(none, 3, 4, 5, 4, 2);
        C.due("STATUS", none.status(0) + none.status(1) + none.status(2), 0);
    }

    private static void walkInMinute999() {
        C.about("WALK in MINUTE 0 .. 999");
        WrongWay x = Made.house(11, PLAIN, 0);
        // 999 is place 9, upwards.
        walks(x, 9, 11, 999, 9, 2);
        walks(x, 0, 11, 999, 11, 22);
        C.due("m -1", x.walk(0, 0, -1, 0), WrongWay.BAD);
        C.due("m 1000", x.walk(0, 0, 1000, 0), WrongWay.BAD);
        C.due("what -1", x.walk(0, 0, 0, -1), WrongWay.BAD);
        C.due("what 2", x.walk(0, 0, 0, 2), WrongWay.BAD);
        C.due("STATUS", x.status(0), 4);
    }

    private static WrongWay lines(int every0, int at0, int every1, int at1) {
        WrongWay x = new WrongWay();
        x.line(0, every0, at0);
        x.line(1, every1, at1);
        return x;
    }

    private static void linesInThatMinuteToo() {
        C.about("LINES: in that MINUTE, too");
        WrongWay x = lines(2, 0, 2, 1);
        fraction(x, "in turn", x.lines(), 1, 2);
        WrongWay y = lines(10, 0, 10, 1);
        // Line 1 is next in the minutes 1, 11 .. 51 alone.
        fraction(y, "one minute behind", y.lines(), 9, 10);
    }

    private static void linesOfLikeOnesLine0() {
        C.about("LINES: of like ones line 0");
        WrongWay x = new WrongWay();
        fraction(x, "as at first", x.lines(), 1, 1);
        WrongWay y = lines(1, 0, 1, 0);
        fraction(y, "every minute both", y.lines(), 1, 1);
        WrongWay z = lines(2, 0, 1, 0);
        fraction(z, "every second one alike", z.lines(), 1, 2);
    }

    private static void linesOverMinutes0To59() {
        C.about("LINES over MINUTES 0 to 59");
        WrongWay x = lines(30, 0, 1, 0);
        fraction(x, "0 and 30, 60 no more", x.lines(), 1, 30);
        WrongWay y = lines(30, 29, 1, 0);
        fraction(y, "29 and 59", y.lines(), 1, 30);
        WrongWay z = lines(1, 0, 1, 29);
        fraction(z, "all", z.lines(), 1, 1);
    }

    private static void linesNoneAheadOfAt() {
        C.about("LINES: the first one in MINUTE AT");
        WrongWay x = lines(1, 29, 1, 0);
        // 0 to 28 are line 1's alone, from 29 on both are alike.
        fraction(x, "31 of 60", x.lines(), 31, 60);
        WrongWay y = lines(1, 29, 30, 0);
        fraction(y, "line 1 in minute 0 alone", y.lines(), 59, 60);
        WrongWay z = lines(30, 1, 30, 0);
        // 0 is line 1's, 1 line 0's; 2 to 30 are line 1's, 31 line 0's; 32 to 59 line 1's.
        fraction(z, "two of 60", z.lines(), 1, 30);
    }

    private static void linesLeastAndGreatest() {
        C.about("LINES: EVERY 1, 30, AT 0, 29");
        WrongWay x = lines(1, 0, 30, 29);
        fraction(x, "always line 0", x.lines(), 1, 1);
        WrongWay y = lines(30, 29, 30, 29);
        fraction(y, "alike", y.lines(), 1, 1);
        WrongWay z = lines(30, 29, 30, 0);
        // Line 1 in 0 and 30; 1 to 29 and 31 to 59 are line 0's: 58.
        fraction(z, "58 of 60", z.lines(), 29, 30);
    }

    private static void evenShift0() {
        C.about("EVEN: the shift 0");
        C.due("a half as it is", lines(2, 0, 2, 1).even(), 0);
        C.due("a half as it is", lines(2, 0, 1, 0).even(), 0);
        C.due("none helps", lines(1, 0, 7, 3).even(), 0);
    }

    private static void evenShift29() {
        C.about("EVEN: the shift 29");
        // Line 1 half a round from line 0, that is at 29.
        C.due("the greatest shift", lines(30, 14, 30, 0).even(), 29);
        C.due("the last but one", lines(30, 14, 30, 1).even(), 28);
        C.due("29 behind 29", lines(30, 13, 30, 29).even(), 29);
    }

    private static void evenBy30LeftOver() {
        C.about("EVEN: its AT that much later, by 30 left over");
        C.due("from 0", lines(10, 0, 10, 0).even(), 5);
        // 28 and 7 by 30 left over is 5.
        C.due("from 28", lines(10, 0, 10, 28).even(), 7);
        C.due("from 29", lines(10, 0, 10, 29).even(), 6);
        C.due("from 5", lines(10, 0, 10, 5).even(), 0);
        // At 16 line 1 has 11 to 16, 21 to 26 .. 51 to 56, not 1 to 6: the half sooner than by 29.
        C.due("from 6", lines(10, 0, 10, 6).even(), 10);
    }

    private static void evenOfLikeOnesTheLeast() {
        C.about("EVEN: of like ones the least");
        // At 20, 22 .. line 0 has 32 of 60, at 21, 23 .. 28: as near to a half, and none is nearer.
        C.due("above ahead of below", lines(10, 0, 4, 0).even(), 20);
        C.due("below ahead of above", lines(10, 0, 4, 21).even(), 0);
        C.due("the last ahead of the first", lines(10, 0, 4, 1).even(), 19);
    }

    private static void evenWhereAtIsTheFirstOne() {
        C.about("EVEN: nothing of line 1 ahead of its AT");
        // By 2 line 0 has 20 of 60; each three minutes that line 1 begins later give it two more: 30 by 17.
        C.due("every 3", lines(3, 0, 3, 0).even(), 17);
    }

    private static void evenLeavesTheLines() {
        C.about("EVEN changes nothing");
        WrongWay x = lines(10, 0, 10, 28);
        x.lines();
        long before = x.digest();
        x.even();
        C.due("digest", x.digest(), before);
        C.due("line 1", x.line(1, 1, 0), 1028);
    }
}
