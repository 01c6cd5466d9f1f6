/**
 * The document's Terms up to what COMES first, and promises 1 to 4, 10 and 11: a test of its own for each
 * sentence that names a boundary case. Answers are worked out by hand.
 */
public final class LiftBoundariesTest {
    private static final Check C = new Check();
    private static final int PLAIN = 0;
    private static final int QUICK = 1;
    private static final int RESTS = 2;
    private static final int ODD = 3;
    private static final int LATE = 4;
    private static final int EXPRESS = 5;

    public static void main(String[] args) {
        elevenFloorsAtFirst();
        floorsFromOneToEleven();
        floorsFollowTheHouse();
        minuteZeroAtFirst();
        liftsFromZeroToThree();
        kindsFromZeroToFive();
        startsFromZeroTo99();
        placeIsByRoundLeftOver();
        plain();
        quick();
        rests();
        odd();
        late();
        express();
        wayOnTheLastFloors();
        wayOfOneThatStands();
        wayOfOneThatNeverGoes();
        seenIfItCanBeTaken();
        comesInTheSameMinute();
        comesAfterTheLongestWait();
        comesPastMinute999();
        ofLikeOnesTheLeastLift();
        houseTellsHowManyLiftsThereWere();
        houseLeavesWhatItIsToLeave();
        lineTellsWhatItHad();
        ofTellsOfNow();
        whereIsByMinuteAlone();
        C.end();
    }

    private static void elevenFloorsAtFirst() {
        C.about("F 11 at first");
        WrongWay x = new WrongWay();
        C.due("count(1)", x.count(1), 11);
        C.due("ride(0, 11, 0, 0)", x.ride(0, 11, 0, 0), WrongWay.NONE);
        C.due("ride(0, 12, 0, 0)", x.ride(0, 12, 0, 0), WrongWay.BAD);
    }

    private static void floorsFromOneToEleven() {
        C.about("F 1 .. 11");
        WrongWay x = new WrongWay();
        C.due("house(0)", x.house(0), WrongWay.BAD);
        C.due("count(1)", x.count(1), 11);
        C.due("house(1)", x.house(1), 0);
        C.due("count(1)", x.count(1), 1);
        C.due("house(12)", x.house(12), WrongWay.BAD);
        C.due("count(1)", x.count(1), 1);
        C.due("house(11)", x.house(11), 0);
        C.due("count(1)", x.count(1), 11);
        C.due("status(0)", x.status(0), 2);
        for (int f = 1; f <= 11; f++) {
            C.due("house", x.house(f), 0);
            C.due("count(1)", x.count(1), f);
        }
    }

    private static void floorsFollowTheHouse() {
        C.about("floors 0 .. F");
        WrongWay x = new WrongWay();
        x.image(0);
        x.house(1);
        C.due("floor 1 of 1", x.ride(1, 1, 0, 0), 0);
        C.due("floor 2 of 1", x.ride(2, 2, 0, 0), WrongWay.BAD);
        x.from(0);
        C.due("floor 11 of 11", x.ride(11, 11, 0, 0), 0);
        C.due("floor 12 of 11", x.ride(12, 12, 0, 0), WrongWay.BAD);
        Made.typed(x, "house 4;");
        x.read();
        C.due("floor 4 of 4", x.ride(4, 4, 0, 0), 0);
        C.due("floor 5 of 4", x.ride(5, 5, 0, 0), WrongWay.BAD);
        C.due("floor 0", x.ride(0, 0, 0, 0), 0);
        C.due("floor -1", x.ride(-1, -1, 0, 0), WrongWay.BAD);
    }

    private static void minuteZeroAtFirst() {
        C.about("minute 0 at first");
        WrongWay x = new WrongWay();
        C.due("count(2)", x.count(2), 0);
        x.lift(PLAIN, 4);
        C.due("floor now", x.of(0, 3), 4);
    }

    private static void liftsFromZeroToThree() {
        C.about("LIFTS 0 .. 3, as they come");
        WrongWay x = new WrongWay();
        C.due("count(0)", x.count(0), 0);
        for (int lift = 0; lift <= 3; lift++) {
            C.due("of one that is to come", x.of(lift, 0), WrongWay.BAD);
            C.due("lift", x.lift(lift, 90 + lift), lift);
            C.due("count(0)", x.count(0), lift + 1);
        }
        C.due("a fifth", x.lift(PLAIN, 0), WrongWay.FULL);
        C.due("count(0)", x.count(0), 4);
        C.due("status(2)", x.status(2), 1);
        for (int lift = 0; lift <= 3; lift++) {
            C.due("kind", x.of(lift, 0), lift);
            C.due("start", x.of(lift, 1), 90 + lift);
        }
        C.due("of(4, 0)", x.of(4, 0), WrongWay.BAD);
        C.due("of(-1, 0)", x.of(-1, 0), WrongWay.BAD);
        x.house(11);
        C.due("there is room again", x.lift(PLAIN, 0), 0);
    }

    private static void kindsFromZeroToFive() {
        C.about("KIND 0 .. 5");
        WrongWay x = new WrongWay();
        C.due("kind -1", x.lift(-1, 0), WrongWay.BAD);
        C.due("kind 6", x.lift(6, 0), WrongWay.BAD);
        C.due("no lift came", x.count(0), 0);
        C.due("kind 0", x.lift(0, 0), 0);
        C.due("kind 5", x.lift(5, 0), 1);
        C.due("status(0)", x.status(0), 2);
        C.due("kind of 0", x.of(0, 0), 0);
        C.due("kind of 1", x.of(1, 0), 5);
    }

    private static void startsFromZeroTo99() {
        C.about("START (0 .. 99)");
        WrongWay x = new WrongWay();
        C.due("start -1", x.lift(0, -1), WrongWay.BAD);
        C.due("start 100", x.lift(0, 100), WrongWay.BAD);
        C.due("no lift came", x.count(0), 0);
        C.due("start 0", x.lift(0, 0), 0);
        C.due("start 99", x.lift(0, 99), 1);
        C.due("status(0)", x.status(0), 2);
        C.due("start of 0", x.of(0, 1), 0);
        C.due("start of 1", x.of(1, 1), 99);
    }

    private static void placeIsByRoundLeftOver() {
        C.about("its place is m and START, by R left over");
        WrongWay x = Made.house(11, PLAIN, 0, PLAIN, 21, PLAIN, 22, PLAIN, 99);
        where(x, 0, 0, "0123456789aba9876543210123");
        where(x, 1, 0, "10123");
        where(x, 2, 0, "0123");
        where(x, 3, 0, "ba98");
        // 999 and 99 is 1098: by 22 left over 20.
        where(x, 3, 998, "32");
        where(x, 0, 998, "89");
        // By 28 left over 6, by 26 6, by 11 9 (PLAIN at place 18).
        WrongWay y = Made.house(11, LATE, 99, RESTS, 99, QUICK, 99);
        where(y, 0, 999, "6");
        where(y, 1, 999, "6");
        where(y, 2, 999, "4");
        WrongWay least = Made.house(1, PLAIN, 0, QUICK, 99, RESTS, 5, LATE, 7);
        where(least, 0, 0, "0101");
        where(least, 1, 0, "0000");
        where(least, 2, 0, "0010000010");
        where(least, 3, 0, "00111000001110");
    }

    private static void where(WrongWay x, int lift, int from, String floors) {
        for (int i = 0; i < floors.length(); i++) {
            C.due("where(" + lift + ", " + (from + i) + ")", x.where(lift, from + i),
                    Character.digit(floors.charAt(i), 16));
        }
    }

    /** Floors, ways and doors, place by place; each place by START and by MINUTE. */
    private static void round(int kind, int f, String floors, String ways, String doors) {
        int r = floors.length();
        for (int place = 0; place < r; place++) {
            WrongWay x = Made.house(f, kind, place);
            WrongWay y = Made.house(f, kind, 0);
            if (place > 0) {
                y.passes(place);
            }
            String at = "kind " + kind + " F " + f + " place " + place;
            C.due(at + " R", x.of(0, 2), r);
            C.due(at + " floor", x.of(0, 3), Character.digit(floors.charAt(place), 16));
            C.due(at + " way", x.of(0, 4), ways.charAt(place) - '0');
            C.due(at + " taken", x.of(0, 5), doors.charAt(place) - '0');
            for (int what = 2; what <= 5; what++) {
                C.due(at + " by minute, what " + what, y.of(0, what), x.of(0, what));
            }
            C.due(at + " a round later", x.where(0, r), x.where(0, 0));
        }
    }

    private static void plain() {
        C.about("PLAIN: twice F; p, if p is F or less, else R less p; always");
        round(PLAIN, 11, "0123456789aba987654321", "1111111111100000000000", "1".repeat(22));
        round(PLAIN, 2, "0121", "1100", "1111");
        round(PLAIN, 1, "01", "10", "11");
    }

    private static void quick() {
        C.about("QUICK: F; that of PLAIN at place twice p");
        round(QUICK, 11, "02468aa8642", "11111000000", "1".repeat(11));
        round(QUICK, 10, "02468a8642", "1111100000", "1".repeat(10));
        round(QUICK, 3, "022", "100", "111");
        round(QUICK, 2, "02", "10", "11");
        round(QUICK, 1, "0", "0", "1");
    }

    private static void rests() {
        C.about("RESTS: 4 more; FLOOR 0 for the last 4 places");
        round(RESTS, 11, "0123456789aba9876543210000", "11111111111000000000001111", "1".repeat(26));
        round(RESTS, 2, "01210000", "11001111", "1".repeat(8));
        round(RESTS, 1, "010000", "101111", "111111");
    }

    private static void odd() {
        C.about("ODD: on FLOOR 0, FLOORS of an odd number alone");
        round(ODD, 11, "0123456789aba987654321", "1111111111100000000000", "1101010101010101010101");
        round(ODD, 10, "0123456789a987654321", "11111111110000000000", "11010101010101010101");
        round(ODD, 2, "0121", "1100", "1101");
        round(ODD, 1, "01", "10", "11");
    }

    private static void late() {
        C.about("LATE: 2 more than RESTS; FLOOR F at places F and 1, F and 2");
        round(LATE, 11, "0123456789abbba9876543210000", "1111111111100000000000001111", "1".repeat(28));
        round(LATE, 2, "0122210000", "1100001111", "1".repeat(10));
        round(LATE, 1, "01110000", "10001111", "1".repeat(8));
    }

    private static void express() {
        C.about("EXPRESS: on FLOORS 0 and F alone");
        round(EXPRESS, 11, "0123456789aba987654321", "1111111111100000000000", "1000000000010000000000");
        round(EXPRESS, 10, "0123456789a987654321", "11111111110000000000", "10000000001000000000");
        round(EXPRESS, 2, "0121", "1100", "1010");
        round(EXPRESS, 1, "01", "10", "11");
    }

    private static void wayOnTheLastFloors() {
        C.about("THE WAY on FLOORS 0 and F");
        WrongWay x = Made.house(7, PLAIN, 0, PLAIN, 7, PLAIN, 6, PLAIN, 13);
        C.due("below", x.of(0, 4), 1);
        C.due("above", x.of(1, 4), 0);
        C.due("on the last but one, upwards", x.of(2, 4), 1);
        C.due("on the first, downwards", x.of(3, 4), 0);
    }

    private static void wayOfOneThatStands() {
        C.about("THE WAY: the first other FLOOR");
        WrongWay rests = Made.house(7, RESTS, 13, RESTS, 14, RESTS, 17, RESTS, 18);
        C.due("ahead of its rest", rests.of(0, 4), 0);
        C.due("as it rests", rests.of(1, 4), 1);
        C.due("in the rest's last minute", rests.of(2, 4), 1);
        C.due("behind it", rests.of(3, 4), 1);
        WrongWay late = Made.house(7, LATE, 6, LATE, 7, LATE, 9, LATE, 10);
        C.due("ahead of its stand", late.of(0, 4), 1);
        C.due("as it stands", late.of(1, 4), 0);
        C.due("in the stand's last minute", late.of(2, 4), 0);
        C.due("behind it", late.of(3, 4), 0);
        WrongWay quick = Made.house(7, QUICK, 3, QUICK, 4);
        C.due("QUICK, twice on 6", quick.of(0, 4), 0);
        C.due("QUICK, the second time", quick.of(1, 4), 0);
    }

    private static void wayOfOneThatNeverGoes() {
        C.about("THE WAY: there is none, DOWN");
        WrongWay x = Made.house(1, QUICK, 0);
        C.due("of(0, 4)", x.of(0, 4), 0);
        C.due("first(0, 0, 1)", x.first(0, 0, 1), 0);
        C.due("first(1, 0, 2)", x.first(1, 0, 2), WrongWay.NONE);
        x.passes(99);
        C.due("then", x.of(0, 4), 0);
    }

    private static void seenIfItCanBeTaken() {
        C.about("SEEN: LIFTS on it that can be taken there");
        WrongWay odd = Made.house(10, ODD, 0);
        C.due("ODD on 0", odd.first(0, 0, 2), 0);
        C.due("ODD on 1", odd.first(1, 0, 2), 1);
        C.due("ODD on 2", odd.first(2, 0, 2), WrongWay.NONE);
        C.due("ODD on 9", odd.first(9, 0, 2), 9);
        C.due("ODD on 10, the last", odd.first(10, 0, 2), WrongWay.NONE);
        WrongWay express = Made.house(10, EXPRESS, 0);
        C.due("EXPRESS on 0", express.first(0, 0, 2), 0);
        C.due("EXPRESS on 1", express.first(1, 0, 2), WrongWay.NONE);
        C.due("EXPRESS on 9", express.first(9, 0, 2), WrongWay.NONE);
        C.due("EXPRESS on 10", express.first(10, 0, 2), 10);
        WrongWay both = Made.house(10, ODD, 0, PLAIN, 1);
        C.due("the other one is seen", both.first(2, 0, 0), 1);
        C.due("one that can not be taken is not waited for", both.first(2, 2, 2), 15);
    }

    private static void comesInTheSameMinute() {
        C.about("COMES from MINUTE m on");
        WrongWay x = Made.house(11, PLAIN, 0);
        C.due("in the minute", x.first(5, 5, 2), 0);
        C.due("its way", x.first(5, 5, 1), 1);
        C.due("a minute ahead", x.first(5, 4, 2), 1);
        C.due("a minute late", x.first(5, 6, 2), 11);
        C.due("its way then", x.first(5, 6, 1), 0);
    }

    private static void comesAfterTheLongestWait() {
        C.about("COMES within the 200 MINUTES");
        C.due("PLAIN above, just gone", Made.house(11, PLAIN, 0).first(11, 12, 2), 21);
        C.due("PLAIN below, just gone", Made.house(11, PLAIN, 0).first(0, 1, 2), 21);
        C.due("RESTS above, just gone", Made.house(11, RESTS, 0).first(11, 12, 2), 25);
        C.due("LATE above, just gone", Made.house(11, LATE, 0).first(11, 14, 2), 25);
        C.due("LATE one's own way, just gone", Made.house(11, LATE, 0).ride(5, 6, 6, 1), 28);
        C.due("LATE downwards, just gone", Made.house(11, LATE, 0).ride(5, 4, 20, 1), 28);
        C.due("LATE from the first floor", Made.house(11, LATE, 0).ride(1, 11, 2, 1), 37);
        C.due("LATE taken along", Made.house(11, LATE, 0).ride(10, 11, 14, 0), 25);
    }

    private static void comesPastMinute999() {
        C.about("the MINUTES from 999 on");
        WrongWay x = Made.house(11, PLAIN, 0);
        // 999 is place 9.
        C.due("first(9, 999, 2)", x.first(9, 999, 2), 0);
        C.due("first(8, 999, 2)", x.first(8, 999, 2), 5);
        C.due("first(8, 999, 1)", x.first(8, 999, 1), 0);
        C.due("ride(9, 0, 999, 0)", x.ride(9, 0, 999, 0), 13);
        C.due("first(8, 1000, 2)", x.first(8, 1000, 2), WrongWay.BAD);
    }

    private static void ofLikeOnesTheLeastLift() {
        C.about("of like ones the least LIFT");
        WrongWay x = Made.house(6, PLAIN, 0, PLAIN, 4, PLAIN, 0, PLAIN, 4);
        C.due("0 and 2", x.first(3, 3, 0), 0);
        C.due("1 and 3", x.first(5, 0, 0), 1);
        C.due("all of them", x.first(2, 2, 0), 0);
        // In minute 4 the ones of start 0 are on 4 upwards, the others on 4 downwards.
        C.due("of one minute the least, not the sooner told way", x.first(4, 4, 0), 0);
        C.due("its way", x.first(4, 4, 1), 1);
        WrongWay y = Made.house(6, PLAIN, 4, PLAIN, 0);
        C.due("the same, told the other way round", y.first(4, 4, 1), 0);
    }

    private static void houseTellsHowManyLiftsThereWere() {
        C.about("house: how many LIFTS there were");
        WrongWay x = new WrongWay();
        for (int n = 0; n <= 4; n++) {
            for (int i = 0; i < n; i++) {
                x.lift(0, 0);
            }
            C.due("house behind " + n, x.house(3), n);
        }
        C.due("at once again", x.house(3), 0);
    }

    private static void houseLeavesWhatItIsToLeave() {
        C.about("house: all else as at first, but for IMAGES, THE TEXT, THE FRACTION, STATUS");
        WrongWay x = Made.full();
        x.lift(0, 0);
        x.porters(0, 0, 200, 10);
        x.porters(0, 0, 200, 5);
        C.due("house(11)", x.house(11), 4);
        int[] counts = {0, 11, 0, 0, 0, 150};
        for (int what = 0; what <= 5; what++) {
            C.due("count(" + what + ")", x.count(what), counts[what]);
        }
        C.due("THE FRACTION above", x.part(0), 15);
        C.due("THE FRACTION below", x.part(1), 16);
        C.due("STATUS", x.status(2), 1);
        C.due("nothing to undo", x.undo(), WrongWay.NO);
        C.due("line 0", x.line(0, 1, 0), 1000);
        C.due("line 1", x.line(1, 1, 0), 1000);
        C.due("THE TEXT", x.read(), 3);
        C.due("image 0", x.from(0), 1);
        C.due("its lifts", x.count(0), 4);
        C.due("image 1", x.from(1), 1);
        C.due("its minute", x.count(2), 0);
    }

    private static void lineTellsWhatItHad() {
        C.about("line 0, 1: EVERY, 1 .. 30, AT, 0 .. 29; 100 times EVERY and AT that it had");
        for (int a = 0; a <= 1; a++) {
            WrongWay x = new WrongWay();
            C.due("every 0", x.line(a, 0, 0), WrongWay.BAD);
            C.due("every 31", x.line(a, 31, 0), WrongWay.BAD);
            C.due("at -1", x.line(a, 1, -1), WrongWay.BAD);
            C.due("at 30", x.line(a, 1, 30), WrongWay.BAD);
            C.due("at first", x.line(a, 1, 0), 1000);
            C.due("the least", x.line(a, 30, 29), 100);
            C.due("the greatest", x.line(a, 10, 0), 3029);
            C.due("the other is as at first", x.line(1 - a, 30, 29), 1000);
            C.due("STATUS", x.status(0), 4);
        }
        WrongWay x = new WrongWay();
        C.due("line -1", x.line(-1, 1, 0), WrongWay.BAD);
        C.due("line 2", x.line(2, 1, 0), WrongWay.BAD);
    }

    private static void ofTellsOfNow() {
        C.about("of: what 0 .. 5");
        WrongWay x = Made.house(4, EXPRESS, 99);
        C.due("what -1", x.of(0, -1), WrongWay.BAD);
        C.due("what 6", x.of(0, 6), WrongWay.BAD);
        // 99 by 8 left over is 3.
        int[] first = {5, 99, 8, 3, 1, 0};
        int[] then = {5, 99, 8, 4, 0, 1};
        for (int what = 0; what <= 5; what++) {
            C.due("what " + what, x.of(0, what), first[what]);
        }
        x.passes(1);
        for (int what = 0; what <= 5; what++) {
            C.due("what " + what + " then", x.of(0, what), then[what]);
        }
        for (int i = 0; i < 11; i++) {
            x.passes(99);
        }
        // 999 and 99 by 8 left over is 2.
        C.due("floor in minute 999", x.of(0, 3), 2);
        C.due("way in minute 999", x.of(0, 4), 1);
        C.due("STATUS", x.status(0), 2);
    }

    private static void whereIsByMinuteAlone() {
        C.about("where: MINUTE m (0 .. 999)");
        WrongWay x = Made.house(11, PLAIN, 0);
        x.passes(7);
        C.due("minute -1", x.where(0, -1), WrongWay.BAD);
        C.due("minute 0", x.where(0, 0), 0);
        C.due("minute 999", x.where(0, 999), 9);
        C.due("minute 1000", x.where(0, 1000), WrongWay.BAD);
        C.due("STATUS", x.status(0), 2);
        C.due("the minute stays", x.count(2), 7);
    }
}
