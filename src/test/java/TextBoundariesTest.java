import java.util.List;

/**
 * THE HOUSE told by a TEXT, and promises 5 to 7: a test of its own for each sentence that names a boundary
 * case. Answers are worked out by hand.
 */
public final class TextBoundariesTest {
    private static final Check C = new Check();

    public static void main(String[] args) {
        bytesFromZeroTo127();
        bytes150AtMost();
        clearTellsHowManyItHad();
        anEmptyText();
        blanksAlone();
        endsTooEarly();
        endsTooEarlyBehindBlanks();
        aFullText();
        aByteAheadOfAll();
        aByteBehindAll();
        aByteBehindAWord();
        aByteBehindANumber();
        aByteForANumber();
        blanksBetween();
        oneOrTwoFigures();
        aThirdFigure();
        floorsAsTold();
        kindsAsTold();
        startsAsTold();
        linesAsTold();
        aWordThatIsNone();
        houseAgain();
        houseFirstOfAll();
        aFifthLiftAtItsWord();
        tooManyOrTooFewNumbers();
        itemsAreCounted();
        theFirstFaultCounts();
        aFaultLeavesAll();
        aFaultLeavesNoTrace();
        whatIsReadTakesThePlaceOfAllBut();
        linesAreAsAtFirstButAsTold();
        C.end();
    }

    private static void reads(String text, int items) {
        WrongWay x = Made.told(text);
        C.due("read of '" + text + "'", x.read(), items);
        for (int what = 0; what <= 2; what++) {
            C.due("status(" + what + ")", x.status(what), 0);
        }
    }

    private static void fault(String text, int place) {
        reads(text, -10 - place);
    }

    private static void bytesFromZeroTo127() {
        C.about("type: a byte (0 .. 127)");
        WrongWay x = new WrongWay();
        C.due("type(-1)", x.type(-1), WrongWay.BAD);
        C.due("type(128)", x.type(128), WrongWay.BAD);
        C.due("none came", x.count(5), 0);
        C.due("type(0)", x.type(0), 1);
        C.due("type(127)", x.type(127), 2);
        C.due("type(128)", x.type(128), WrongWay.BAD);
        C.due("STATUS", x.status(0), 3);
        C.due("two came", x.count(5), 2);
        // A byte is not cut to fit: 104 + 256 is no h.
        C.due("type(360)", x.type(360), WrongWay.BAD);
    }

    private static void bytes150AtMost() {
        C.about("150 bytes at most");
        WrongWay x = new WrongWay();
        for (int i = 1; i <= 150; i++) {
            C.due("type", x.type(32), i);
        }
        C.due("byte 151", x.type(32), WrongWay.FULL);
        C.due("byte 151 again", x.type(59), WrongWay.FULL);
        C.due("count(5)", x.count(5), 150);
        C.due("STATUS BAD", x.status(0), 0);
        C.due("STATUS FULL", x.status(2), 2);
        C.due("clear", x.clear(), 150);
        C.due("there is room again", x.type(32), 1);
    }

    private static void clearTellsHowManyItHad() {
        C.about("clear: how many it had");
        WrongWay x = new WrongWay();
        C.due("at first", x.clear(), 0);
        Made.typed(x, "house 3;");
        C.due("then", x.clear(), 8);
        C.due("then none", x.clear(), 0);
        C.due("count(5)", x.count(5), 0);
        C.due("read", x.read(), -10);
        Made.typed(x, "house 3;lift 0 0;");
        Made.typed(x, "house 4;");
        C.due("what was cleared is not read", x.read(), 1);
        C.due("F", x.count(1), 4);
        Made.typed(x, "house 11;");
        Made.typed(x, "house 1");
        C.due("nor is what stood behind it", x.read(), -17);
        Made.typed(x, "houses");
        Made.typed(x, "house");
        C.due("nor does it make a word longer", x.read(), -15);
    }

    private static void anEmptyText() {
        C.about("the TEXT's length, an empty one, too");
        WrongWay x = new WrongWay();
        C.due("read at first", x.read(), -10);
        C.due("all stays", x.count(1), 11);
        C.due("STATUS", x.status(0) + x.status(1) + x.status(2), 0);
    }

    private static void blanksAlone() {
        C.about("the TEXT's length: blanks alone");
        fault(" ", 1);
        fault("   ", 3);
        fault(" ".repeat(149), 149);
        fault(" ".repeat(150), 150);
    }

    /** Every beginning of a text: a house, a fault at its length, or a word that is not yet one. */
    private static void endsTooEarly() {
        C.about("the TEXT's length, if it ends too early");
        String text = "house 5;lift 3 42;line 1 30 29;";
        int[] due = {
            -10, -10, -10, -10, -10, -15, -16, -17, 1,
            -18, -18, -18, -22, -23, -24, -25, -26, -27, 2,
            -28, -28, -28, -32, -33, -34, -35, -36, -37, -38, -39, -40, 3
        };
        for (int length = 0; length < due.length; length++) {
            reads(text.substring(0, length), due[length]);
        }
    }

    private static void endsTooEarlyBehindBlanks() {
        C.about("the TEXT's length, blanks behind, if it ends too early");
        fault("house  ", 7);
        fault("  house 1  ", 11);
        fault("house 1; lift  ", 15);
        fault("house 1; lift 0   ", 18);
        fault("house 1; lift 0 0 ", 18);
        fault("house 1;line 0 1 0    ", 22);
        reads("house 1;   ", 1);
    }

    private static void aFullText() {
        C.about("a TEXT of 150 bytes");
        reads("house 1" + " ".repeat(142) + ";", 1);
        fault("house 1" + " ".repeat(142), 149);
        fault("house 1" + " ".repeat(143), 150);
        reads(" ".repeat(142) + "house 1;", 1);
        fault(" ".repeat(143) + "house 1", 150);
        fault(" ".repeat(145) + "house", 150);
        fault(" ".repeat(146) + "hous", 146);
        fault(" ".repeat(149) + ";", 149);
        fault("h".repeat(150), 0);
        fault("house 1;" + "9".repeat(142), 8);
        fault("house " + "1".repeat(144), 6);
        fault("house 1" + " ".repeat(141) + ";;", 149);
        // The byte that was refused is not in it: the ; is missing.
        WrongWay x = Made.told("house 1" + " ".repeat(143));
        C.due("byte 151", x.type(';'), WrongWay.FULL);
        C.due("read", x.read(), -160);
    }

    private static void aByteAheadOfAll() {
        C.about("a byte ahead of house");
        for (int c = 0; c <= 127; c++) {
            reads((char) c + "house 1;", c == ' ' ? 1 : -10);
        }
    }

    private static void aByteBehindAll() {
        C.about("a byte behind the last ;");
        for (int c = 0; c <= 127; c++) {
            reads("house 1;" + (char) c, c == ' ' ? 1 : -18);
        }
    }

    private static void aByteBehindAWord() {
        C.about("a byte behind a word");
        for (int c = 0; c <= 127; c++) {
            boolean letter = c >= 'a' && c <= 'z';
            // 0 and 1 make 01 and 11 of it, both as told.
            boolean fine = c == ' ' || c == '0' || c == '1';
            reads("house" + (char) c + "1;", fine ? 1 : letter ? -10 : -15);
        }
    }

    private static void aByteBehindANumber() {
        C.about("a byte behind a number");
        for (int c = 0; c <= 127; c++) {
            boolean figure = c >= '0' && c <= '9';
            boolean fine = c == ' ' || c == '0' || c == '1';
            // A larger number is not as told at its first figure; of two ; the second is too many.
            reads("house 1" + (char) c + ";", fine ? 1 : figure ? -16 : c == ';' ? -18 : -17);
        }
    }

    private static void aByteForANumber() {
        C.about("a byte for a number");
        for (int c = 0; c <= 127; c++) {
            boolean kind = c >= '0' && c <= '5';
            // Behind a blank 9 is the number; ; is START's place then.
            reads("house 1;lift " + (char) c + " 9;", kind ? 2 : c == ' ' ? -25 : -23);
        }
    }

    private static void blanksBetween() {
        C.about("blanks (32) between");
        reads("house 7;lift 0 1;", 2);
        reads("   house   7   ;   lift   0   1   ;   ", 2);
        reads("house7;lift0 1;line1 2 3;", 3);
        fault("ho use 7;", 0);
        fault("house\t7;", 5);
        fault("house\n7;", 5);
        fault("house\r7;", 5);
        fault("house" + (char) 31 + "7;", 5);
        fault("house!7;", 5);
        fault("house" + (char) 0 + "7;", 5);
        fault("house 7;lift 0_1;", 14);
        WrongWay x = Made.told("house 1 1;");
        C.due("two numbers are not one", x.read(), -18);
        WrongWay y = Made.told("house 9;lift 01 02;");
        C.due("read", y.read(), 2);
        C.due("kind", y.of(0, 0), 1);
        C.due("start", y.of(0, 1), 2);
    }

    private static void oneOrTwoFigures() {
        C.about("figures (1 or 2 are one number)");
        WrongWay x = Made.told("house 09;lift 05 7;lift 5 07;lift 0 70;line 01 03 08;line 00 3 9;");
        C.due("read", x.read(), 6);
        C.due("F", x.count(1), 9);
        C.due("start 7", x.of(0, 1), 7);
        C.due("kind 05", x.of(0, 0), 5);
        C.due("start 07", x.of(1, 1), 7);
        C.due("start 70", x.of(2, 1), 70);
        C.due("line 1", x.line(1, 1, 0), 308);
        C.due("line 0", x.line(0, 1, 0), 309);
        for (int start = 0; start <= 99; start++) {
            WrongWay y = Made.told("house 1;lift 0 " + start + ";");
            C.due("read", y.read(), 2);
            C.due("start", y.of(0, 1), start);
        }
    }

    private static void aThirdFigure() {
        C.about("a third figure's number");
        fault("house 001;", 6);
        fault("house 100;", 6);
        fault("house 011", 6);
        fault("house   0011;", 8);
        fault("house 1;lift 000 0;", 13);
        fault("house 1;lift 012;", 13);
        fault("house 1;lift 0 000;", 15);
        fault("house 1;lift 0 099;", 15);
        fault("house 1;lift 0 100;", 15);
        fault("house 1;line 001 1 0;", 13);
        fault("house 1;line 0 010 0;", 15);
        fault("house 1;line 0 1 000;", 17);
        fault("house 1 001;", 8);
        fault("123 house 1;", 0);
        fault("house 1;lift 0 99999999999999999999;", 15);
        // A sum that would wrap around to a number as told.
        fault("house 4294967297;", 6);
    }

    private static void floorsAsTold() {
        C.about("house F 1 .. 11 in a TEXT");
        for (int f = 0; f <= 99; f++) {
            WrongWay x = Made.told("house " + f + ";");
            boolean fine = f >= 1 && f <= 11;
            C.due("read of " + f, x.read(), fine ? 1 : -16);
            C.due("F", x.count(1), fine ? f : 11);
        }
        fault("house 00;", 6);
    }

    private static void kindsAsTold() {
        C.about("lift KIND 0 .. 5 in a TEXT");
        for (int kind = 0; kind <= 99; kind++) {
            WrongWay x = Made.told("house 3;lift " + kind + " 4;");
            boolean fine = kind <= 5;
            C.due("read of " + kind, x.read(), fine ? 2 : -23);
            C.due("kind", x.of(0, 0), fine ? kind : WrongWay.BAD);
        }
    }

    private static void startsAsTold() {
        C.about("lift START 0 .. 99 in a TEXT");
        WrongWay x = Made.told("house 3;lift 2 0;lift 2 99;");
        C.due("read", x.read(), 3);
        C.due("the least", x.of(0, 1), 0);
        C.due("the greatest", x.of(1, 1), 99);
        fault("house 3;lift 2 100;", 15);
        fault("house 3;lift 2 -1;", 15);
    }

    private static void linesAsTold() {
        C.about("line a EVERY AT in a TEXT");
        for (int n = 0; n <= 99; n++) {
            reads("house 3;line " + n + " 1 0;", n <= 1 ? 2 : -23);
            reads("house 3;line 0 " + n + " 0;", n >= 1 && n <= 30 ? 2 : -25);
            reads("house 3;line 1 1 " + n + ";", n <= 29 ? 2 : -27);
        }
        WrongWay x = Made.told("house 3;line 0 1 0;line 1 30 29;");
        C.due("read", x.read(), 3);
        C.due("the least", x.line(0, 2, 2), 100);
        C.due("the greatest", x.line(1, 2, 2), 3029);
    }

    private static void aWordThatIsNone() {
        C.about("a word that is none");
        fault("hous 1;", 0);
        fault("houses 1;", 0);
        fault("housf 1;", 0);
        fault("iouse 1;", 0);
        fault("lifts 1;", 0);
        fault(" a 1;", 1);
        fault("house 1;lif 0 0;", 8);
        fault("house 1;lifts 0 0;", 8);
        fault("house 1;lint 0 0;", 8);
        fault("house 1;lines 0 1 0;", 8);
        fault("house 1;lin 0 1 0;", 8);
        fault("house 1;liftlift 0 0;", 8);
        fault("house 1;  z;", 10);
        fault("House 1;", 0);
        fault("HOUSE 1;", 0);
        fault("house 1;Lift 0 0;", 8);
        fault("house 1;liFt 0 0;", 8);
        fault("houseX 1;", 5);
    }

    private static void houseAgain() {
        C.about("house once");
        fault("house 1;house 1;", 8);
        fault("house 1;lift 0 0;house 2;", 17);
        fault("house 1;  house", 10);
        fault("house house 1;", 6);
    }

    private static void houseFirstOfAll() {
        C.about("house first of all");
        fault("lift 0 0;house 1;", 0);
        fault("line 0 1 0;house 1;", 0);
        fault(";house 1;", 0);
        fault("  ;house 1;", 2);
        fault("1 house 1;", 0);
        fault("lift 0 0;", 0);
        fault(";", 0);
        fault("7", 0);
    }

    private static void aFifthLiftAtItsWord() {
        C.about("a 5th lift at its word");
        String four = "house 1;lift 0 0;lift 1 1;lift 2 2;lift 3 3;";
        reads(four, 5);
        reads(four + "line 0 1 0;", 6);
        fault(four + "lift 0 0;", 44);
        fault(four + "lift", 44);
        fault(four + "  lift 9 999;", 46);
        fault(four + "line 0 1 0;lift 0 0;", 55);
        fault(four + "lift;", 44);
        // Lifts that are there already do not count.
        WrongWay x = Made.house(5, 0, 0, 0, 0, 0, 0, 0, 0);
        Made.typed(x, four);
        C.due("read with four", x.read(), 5);
        C.due("lifts", x.count(0), 4);
        C.due("a fifth behind it", x.lift(0, 0), WrongWay.FULL);
        C.due("read again", x.read(), 5);
    }

    private static void tooManyOrTooFewNumbers() {
        C.about("a TOKEN that can not stand there");
        fault("house;", 5);
        fault("house ;", 6);
        fault("house 1 2;", 8);
        fault("house 1 lift 0 0;", 8);
        fault("house 1;;", 8);
        fault("house 1; ;", 9);
        fault("house 1;5;", 8);
        fault("house 1;lift;", 12);
        fault("house 1;lift 1;", 14);
        fault("house 1;lift 1 2 3;", 17);
        fault("house 1;lift lift 1 2;", 13);
        fault("house 1;lift 1 lift 2;", 15);
        fault("house 1;lift 1 2 lift;", 17);
        fault("house 1;line;", 12);
        fault("house 1;line 1;", 14);
        fault("house 1;line 1 2;", 16);
        fault("house 1;line 1 2 3 4;", 19);
        fault("house 1;line 1 2 x;", 17);
        fault("house 1;line 1 2 3 house;", 19);
        fault("house -1;", 6);
        fault("house +1;", 6);
        fault("house 1.;", 7);
        fault("house 1,", 7);
    }

    private static void itemsAreCounted() {
        C.about("read: how many ITEMS");
        reads("house 1;", 1);
        reads("house 1;line 0 1 0;", 2);
        reads("house 1;" + "line 0 1 0;".repeat(12), 13);
        reads("house1;" + "line0 1 0;".repeat(14), 15);
        reads("house1;" + "line0 1 0;".repeat(14) + "   ", 15);
        fault("house1;" + "line0 1 0;".repeat(14) + ";", 147);
    }

    private static void theFirstFaultCounts() {
        C.about("FAULT: the first TOKEN that can not stand there");
        fault("house 0;lift 9 9;", 6);
        fault("house 1;lift 9 100;", 13);
        fault("house 1;lift 0 100", 15);
        fault("? house", 0);
        fault("house 12", 6);
        fault("house 1;lift 6", 13);
        fault("house 1;line 2 31 30", 13);
        fault("house 1;line 1 31 30", 15);
        fault("house 1;line 1 30 30", 18);
    }

    private static void aFaultLeavesAll() {
        C.about("-10 less the FAULT: all stays");
        String[] faults = {
            "", "house", "house 3;lift 0 0;lift 1 1;line 0 1 1;line 1 2 2;lift", "house 0;", "house 3;x",
            "house 3;lift 0 0;lift 1 1;lift 2 2;lift 3 3;lift 4 4;", "house 3;line 0 1 1;line 1 2 30;"
        };
        for (String text : faults) {
            WrongWay x = Made.furnished();
            WrongWay like = Made.furnished();
            Made.typed(x, text);
            Made.typed(like, text);
            C.holds("a fault in '" + text + "'", x.read() <= -10);
            for (int what = 0; what <= 2; what++) {
                C.due("status(" + what + ")", x.status(what), like.status(what));
            }
            List<Long> all = Made.allOf(x);
            C.holds("all stays at '" + text + "'", all.equals(Made.allOf(like)));
        }
    }

    private static void aFaultLeavesNoTrace() {
        C.about("a FAULT leaves no trace in what is read next");
        WrongWay x = new WrongWay();
        Made.typed(x, "house 3;lift 0 0;lift 1 1;lift 2 2;lift 3 3;line 0 1 1;line 1 2 2;x");
        C.due("a fault", x.read(), -76);
        Made.typed(x, "house 2;lift 5 5;");
        C.due("read", x.read(), 2);
        C.due("lifts", x.count(0), 1);
        C.due("kind", x.of(0, 0), 5);
        C.due("line 0", x.line(0, 1, 0), 1000);
        C.due("line 1", x.line(1, 1, 0), 1000);
    }

    private static void whatIsReadTakesThePlaceOfAllBut() {
        C.about("a HOUSE that is read takes the place of all but IMAGES, THE TEXT, THE FRACTION, STATUS");
        WrongWay x = Made.full();
        x.type(0);
        x.house(0);
        x.undo();
        x.porters(0, 0, 200, 3);
        long above = x.part(0);
        long below = x.part(1);
        C.due("read", x.read(), 3);
        int[] counts = {1, 3, 0, 0, 0, 150};
        for (int what = 0; what <= 5; what++) {
            C.due("count(" + what + ")", x.count(what), counts[what]);
        }
        C.due("the lift's kind", x.of(0, 0), 2);
        C.due("the lift's start", x.of(0, 1), 5);
        C.due("of(1, 0)", x.of(1, 0), WrongWay.BAD);
        C.due("THE FRACTION above", x.part(0), above);
        C.due("THE FRACTION below", x.part(1), below);
        C.due("nothing to undo", x.undo(), WrongWay.NO);
        C.due("STATUS BAD", x.status(0), 2);
        C.due("STATUS NO", x.status(1), 1);
        C.due("STATUS FULL", x.status(2), 1);
        C.due("no note is left", x.is(0, 0), 63);
        C.due("THE TEXT is still there", x.read(), 3);
        C.due("image 0", x.from(0), 1);
        C.due("image 0's minute", x.count(2), 1);
        C.due("image 1", x.from(1), 1);
        C.due("image 1's lifts", x.count(0), 4);
    }

    private static void linesAreAsAtFirstButAsTold() {
        C.about("LINES EVERY 10, AT 0, but as told");
        for (int a = 0; a <= 1; a++) {
            WrongWay x = new WrongWay();
            x.line(0, 3, 3);
            x.line(1, 4, 4);
            Made.typed(x, "house 5;line " + a + " 7 8;");
            C.due("read", x.read(), 2);
            C.due("as told", x.line(a, 1, 0), 708);
            C.due("as at first", x.line(1 - a, 1, 0), 1000);
        }
        WrongWay x = Made.told("house 5;line 0 7 8;line 1 2 2;line 0 9 10;");
        C.due("read", x.read(), 4);
        C.due("the later one holds", x.line(0, 1, 0), 910);
        C.due("the other stays", x.line(1, 1, 0), 202);
    }
}
