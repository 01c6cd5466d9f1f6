import java.util.ArrayList;
import java.util.List;

/** Objects made ready for a test, and all that can be told of one. */
final class Made {
    private Made() {}

    /** A house of floors 0 .. f; of lifts KIND and START in turn. */
    static WrongWay house(int f, int... lifts) {
        WrongWay x = new WrongWay();
        x.house(f);
        for (int i = 0; i + 1 < lifts.length; i += 2) {
            x.lift(lifts[i], lifts[i + 1]);
        }
        return x;
    }

    static void typed(WrongWay x, String text) {
        x.clear();
        for (int i = 0; i < text.length(); i++) {
            x.type(text.charAt(i));
        }
    }

    static WrongWay told(String text) {
        WrongWay x = new WrongWay();
        typed(x, text);
        return x;
    }

    /** Two lifts, some of everything, image 0 alone kept; STATUS 3, 2, 1. */
    static WrongWay furnished() {
        WrongWay x = house(11, 0, 0, 1, 1, 2, 2, 3, 3);
        x.lift(4, 4);
        x.house(5);
        x.undo();
        x.from(1);
        x.house(0);
        x.lift(6, 0);
        x.count(6);
        x.lift(4, 17);
        x.lift(3, 98);
        x.line(0, 7, 3);
        x.line(1, 4, 29);
        x.note(1, 5, 99, 1);
        x.passes(5);
        x.passes(30);
        x.image(0);
        x.note(0, 4, 0, 0);
        x.passes(7);
        typed(x, "house 2;lift 1 1;");
        x.porters(0, 0, 200, 3);
        return x;
    }

    /** All that has an end is at it: four lifts, six noted, 150 bytes, eight to undo, both images. */
    static WrongWay full() {
        WrongWay x = house(11, 0, 0, 1, 99, 5, 7, 2, 30);
        x.image(1);
        x.passes(1);
        x.image(0);
        for (int i = 0; i < 9; i++) {
            x.passes(98);
        }
        for (int i = 0; i < 6; i++) {
            x.note(i % 4, 2 * i, 16 * i, i % 2);
        }
        typed(x, "house 3;lift 2 5;line 1 2 3;" + " ".repeat(122));
        x.lines();
        return x;
    }

    /**
     * What an object answers to all that can be asked, STATUS left out. Asking changes it: it is of no use
     * afterwards. Some 200 calls.
     */
    static List<Long> allOf(WrongWay x) {
        List<Long> told = new ArrayList<>();
        tellHouse(x, told);
        tellUndone(x, told);
        told.add((long) x.read());
        tellHouse(x, told);
        for (int i = 0; i <= 1; i++) {
            told.add((long) x.from(i));
            tellHouse(x, told);
            tellUndone(x, told);
        }
        told.add((long) x.clear());
        return told;
    }

    private static void tellHouse(WrongWay x, List<Long> told) {
        for (int what = 0; what <= 5; what++) {
            told.add((long) x.count(what));
        }
        told.add(x.part(0));
        told.add(x.part(1));
        told.add(x.digest());
        for (int lift = 0; lift < x.count(0); lift++) {
            for (int what = 0; what <= 5; what++) {
                told.add((long) x.of(lift, what));
            }
            told.add((long) x.is(lift, 0));
        }
        told.add((long) x.even());
    }

    private static void tellUndone(WrongWay x, List<Long> told) {
        for (int i = 0; i <= 8; i++) {
            told.add((long) x.undo());
        }
    }
}
