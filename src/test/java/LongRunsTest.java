/** Runs of up to 512 calls on one object, as many as it is good for; the answers can be told without a model. */
public final class LongRunsTest {
    private static final int CALLS = 512;
    private static final Check C = new Check();

    public static void main(String[] args) {
        passesOn();
        passesAndUndone();
        passesFiveUndoesThree();
        typesOn();
        typesAndClears();
        readsOn();
        buildsOn();
        liftsOn();
        linesOn();
        notesOn();
        notesAndForgets();
        imagesInTurn();
        refusedOn();
        asksOn();
        asksTheSame();
        C.end();
    }

    /** 500 minutes, each one that may be undone, the last eight kept. */
    private static void passesOn() {
        C.about("minute by minute");
        WrongWay x = new WrongWay();
        for (int call = 1; call <= CALLS - 12; call++) {
            C.due("passes(1), call " + call, x.passes(1), call);
        }
        C.due("that may be undone", x.count(4), 8);
        for (int call = 1; call <= 8; call++) {
            C.due("undo " + call, x.undo(), 500 - call);
        }
        C.due("a ninth", x.undo(), WrongWay.NO);
        C.due("NO", x.status(1), 1);
        C.due("the minute", x.count(2), 492);
    }

    private static void passesAndUndone() {
        C.about("gone by and undone");
        WrongWay x = new WrongWay();
        for (int turn = 0; turn < CALLS / 2; turn++) {
            int n = 1 + turn % 99;
            C.due("passes(" + n + ")", x.passes(n), n);
            C.due("undo", x.undo(), 0);
        }
    }

    /** Two more a turn than are undone, till the eight that are kept are not enough, and on. */
    private static void passesFiveUndoesThree() {
        C.about("five go by, three are undone");
        WrongWay x = new WrongWay();
        for (int turn = 0; turn < CALLS / 9; turn++) {
            int minute = 2 * turn;
            for (int i = 1; i <= 5; i++) {
                C.due("passes(1), turn " + turn, x.passes(1), minute + i);
            }
            for (int i = 1; i <= 3; i++) {
                C.due("undo, turn " + turn, x.undo(), minute + 5 - i);
            }
            int kept = turn == 0 ? 2 : turn == 1 ? 4 : 5;
            C.due("that may be undone, turn " + turn, x.count(4), kept);
        }
    }

    private static void typesOn() {
        C.about("typed on");
        WrongWay x = new WrongWay();
        for (int call = 1; call <= CALLS - 3; call++) {
            C.due("type, call " + call, x.type(call % 128), call <= 150 ? call : WrongWay.FULL);
        }
        C.due("FULL", x.status(2), CALLS - 3 - 150);
        C.due("clear", x.clear(), 150);
        C.due("type behind it", x.type(32), 1);
    }

    /** 1, 2, 3 .. bytes in turn. */
    private static void typesAndClears() {
        C.about("typed and cleared");
        WrongWay x = new WrongWay();
        int calls = 0;
        for (int length = 0; calls + length + 1 <= CALLS; length++) {
            for (int i = 1; i <= length; i++) {
                C.due("type", x.type('a'), i);
            }
            C.due("clear", x.clear(), length);
            calls += length + 1;
        }
    }

    /** The one text, read again and again, each time a house as told. */
    private static void readsOn() {
        C.about("read on");
        WrongWay x = new WrongWay();
        String text = "house 7;lift 1 2;lift 3 4;line 1 5 6;";
        for (int i = 0; i < text.length(); i++) {
            C.due("type", x.type(text.charAt(i)), i + 1);
        }
        for (int turn = 0; turn < (CALLS - text.length()) / 5; turn++) {
            C.due("read, turn " + turn, x.read(), 4);
            C.due("lift, turn " + turn, x.lift(0, turn % 100), 2);
            C.due("line, turn " + turn, x.line(1, 30, 29), 506);
            C.due("passes, turn " + turn, x.passes(9), 9);
            C.due("note, turn " + turn, x.note(2, 0, 0, 1), 1);
        }
    }

    private static void buildsOn() {
        C.about("built on");
        WrongWay x = new WrongWay();
        for (int turn = 0; turn < CALLS / 4; turn++) {
            C.due("house, turn " + turn, x.house(1 + turn % 11), turn == 0 ? 0 : 2);
            C.due("lift, turn " + turn, x.lift(turn % 6, turn % 100), 0);
            C.due("lift, turn " + turn, x.lift((turn + 1) % 6, 99), 1);
            C.due("F, turn " + turn, x.count(1), 1 + turn % 11);
        }
    }

    private static void liftsOn() {
        C.about("lifts on");
        WrongWay x = new WrongWay();
        for (int call = 0; call < CALLS - 1; call++) {
            C.due("lift, call " + call, x.lift(call % 6, call % 100), call < 4 ? call : WrongWay.FULL);
        }
        C.due("FULL", x.status(2), CALLS - 5);
    }

    private static void linesOn() {
        C.about("lines on");
        WrongWay x = new WrongWay();
        for (int call = 0; call < CALLS; call++) {
            int before = call - 2;
            int had = before < 0 ? 1000 : 100 * (1 + before % 30) + before % 29;
            C.due("line, call " + call, x.line(call % 2, 1 + call % 30, call % 29), had);
        }
    }

    private static void notesOn() {
        C.about("noted on");
        WrongWay x = new WrongWay();
        C.due("lift", x.lift(0, 0), 0);
        for (int call = 1; call <= CALLS - 3; call++) {
            int due = call <= 6 ? call : WrongWay.FULL;
            C.due("note, call " + call, x.note(0, call % 12, call % 100, call % 2), due);
        }
        C.due("FULL", x.status(2), CALLS - 9);
        C.due("forget", x.forget(), 6);
    }

    /** 1, 2 .. 6, 1, 2 .. noted, each time of what is so, so that PLAIN always fits. */
    private static void notesAndForgets() {
        C.about("noted and forgotten");
        WrongWay x = new WrongWay();
        C.due("lift", x.lift(0, 0), 0);
        int calls = 1;
        for (int turn = 0; calls + 8 <= CALLS; turn++) {
            int many = 1 + turn % 6;
            for (int i = 1; i <= many; i++) {
                int minute = (7 * turn + i) % 11;
                C.due("note, turn " + turn, x.note(0, minute, minute, 1), i);
            }
            C.due("PLAIN may be, turn " + turn, x.is(0, 0) & 1, 1);
            C.due("forget, turn " + turn, x.forget(), many);
            calls += many + 2;
        }
    }

    /** Two houses that take turns, each going on from where it was left. */
    private static void imagesInTurn() {
        C.about("images in turn");
        WrongWay x = new WrongWay();
        C.due("lift", x.lift(2, 5), 0);
        C.due("image 0", x.image(0), 1);
        C.due("house", x.house(4), 1);
        C.due("image 1", x.image(1), 1);
        int[] minutes = {0, 0};
        for (int turn = 0; turn < (CALLS - 4) / 6; turn++) {
            int i = turn % 2;
            C.due("from, turn " + turn, x.from(i), 1);
            C.due("the minute, turn " + turn, x.count(2), minutes[i]);
            C.due("LIFTS, turn " + turn, x.count(0), 1 - i);
            C.due("F, turn " + turn, x.count(1), i == 0 ? 11 : 4);
            minutes[i] += 3 + i;
            C.due("passes, turn " + turn, x.passes(3 + i), minutes[i]);
            C.due("image, turn " + turn, x.image(i), 1);
        }
    }

    private static void refusedOn() {
        C.about("refused on");
        WrongWay x = new WrongWay();
        for (int turn = 0; turn < (CALLS - 4) / 4; turn++) {
            C.due("house, turn " + turn, x.house(12 + turn), WrongWay.BAD);
            C.due("undo, turn " + turn, x.undo(), WrongWay.NO);
            C.due("from, turn " + turn, x.from(turn % 2), WrongWay.NO);
            C.due("status, turn " + turn, x.status(3 + turn), WrongWay.NONE);
        }
        C.due("BAD", x.status(0), 254);
        C.due("NO", x.status(1), 254);
        C.due("FULL", x.status(2), 0);
    }

    /** A PLAIN lift of START 0 goes 0 .. 11 .. 0 in 22 minutes: asked for minute by minute. */
    private static void asksOn() {
        C.about("asked on");
        WrongWay x = new WrongWay();
        C.due("lift", x.lift(0, 0), 0);
        for (int m = 0; m < CALLS - 1; m++) {
            int place = (m + 489) % 22;
            C.due("where(0, " + (m + 489) + ")", x.where(0, m + 489), Math.min(place, 22 - place));
        }
    }

    /** What only asks answers the same at its last call as at its first, and changes nothing. */
    private static void asksTheSame() {
        C.about("asked for the same");
        WrongWay x = new WrongWay();
        C.due("lift", x.lift(0, 0), 0);
        C.due("often(3, 0)", x.often(3, 0), 1);
        long digest = x.digest();
        for (int turn = 0; turn < (CALLS - 3) / 12; turn++) {
            C.due("often(3, 0)", x.often(3, 0), 1);
            C.due("part(0)", x.part(0), 17);
            C.due("part(1)", x.part(1), 60);
            C.due("first(3, 4, 2)", x.first(3, 4, 2), 15);
            C.due("ride(3, 0, 4, 0)", x.ride(3, 0, 4, 0), 18);
            C.due("walk(3, 11, 4, 0)", x.walk(3, 11, 4, 0), 11);
            C.due("walk(3, 11, 4, 1)", x.walk(3, 11, 4, 1), 16);
            C.due("even()", x.even(), 5);
            C.due("is(0, 0)", x.is(0, 0), 63);
            C.due("days(11, 7, 60)", x.days(11, 7, 60), 0);
            C.due("of(0, 4)", x.of(0, 4), 1);
            C.due("digest()", x.digest(), digest);
        }
    }
}
