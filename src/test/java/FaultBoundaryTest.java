import java.util.List;

/** The boundaries that the document names for paths, for the order and places of faults, and for the end of the text. */
public final class FaultBoundaryTest {
    private static final String[] ALL =
        {"q", "Q", "cm", "g", "m", "l", "h", "re", "c", "W", "W*", "f", "f*", "n"};
    private static final int[] OPERANDS = {0, 0, 6, 1, 2, 2, 0, 4, 6, 0, 0, 0, 0, 0};
    private static final List<String> NEED_A_PATH = List.of("l", "h", "c", "W", "W*", "f", "f*", "n");
    private static final List<String> NOT_IN_A_PATH = List.of("q", "Q", "cm", "g");
    private static final List<String> FINISH = List.of("f", "f*", "n");
    private static final Check CHECK = new Check();

    public static void main(String[] args) {
        withoutAPath();
        inAPath();
        afterClip();
        noPathAfterThese();
        firstOfTheFaultsOfAnOperator();
        tokenByToken();
        placesOfTokens();
        numbersAreLeft();
        pathIsLeft();
        somethingIsSaved();
        placeIsTheLength();
        drawingEndsWithTheFirstFault();
        faultyOperatorDoesNothing();
        CHECK.end();
    }

    private static String with(int index) {
        return Check.times("1 ", OPERANDS[index]) + ALL[index];
    }

    /** What stands before is without a fault, and so is the operator, whatever is left at the end. */
    private static void dueTaken(String before, int index) {
        PageRaster raster = Check.drawn(before + with(index), 3, 3);
        int place = raster.faultAt();
        CHECK.due("<" + before + with(index) + "> is taken",
            place == -1 || place == (before + with(index)).length() ? 1 : 0, 1);
    }

    private static void dueRefused(String before, int index, int number) {
        CHECK.dueFaultOfLast(before + Check.times("1 ", OPERANDS[index]), ALL[index], number);
    }

    private static void withoutAPath() {
        CHECK.says("5: l, h, c, W, W*, f, f*, n without a path");
        for (int i = 0; i < ALL.length; i++) {
            for (String before : new String[] {"", "q ", "q 2 2 m n ", "q 2 2 1 1 re f ", "q 2 2 m W f* "}) {
                if (NEED_A_PATH.contains(ALL[i])) {
                    dueRefused(before, i, 5);
                } else if (!ALL[i].equals("Q") || !before.isEmpty()) {
                    dueTaken(before, i);
                }
            }
        }
    }

    private static void inAPath() {
        CHECK.says("6: q, Q, cm, g in a path");
        for (int i = 0; i < ALL.length; i++) {
            for (String before : new String[] {"q 2 2 m ", "q 2 2 1 1 re ", "q 2 2 m 3 3 l ", "q 2 2 m h ", "q 0 0 m f 0 0 m 1 1 m "}) {
                if (NOT_IN_A_PATH.contains(ALL[i])) {
                    dueRefused(before, i, 6);
                } else {
                    dueTaken(before, i);
                }
            }
        }
    }

    private static void afterClip() {
        CHECK.says("6: ... after W or W* everything but f, f*, n");
        for (int i = 0; i < ALL.length; i++) {
            for (String before : new String[] {"q 2 2 m W ", "q 2 2 m W* ", "q 2 2 1 1 re W ", "2 2 m 3 3 l h W* "}) {
                if (FINISH.contains(ALL[i])) {
                    dueTaken(before, i);
                } else {
                    dueRefused(before, i, 6);
                }
            }
        }
        // Behind f, f* or n everything is as before W.
        for (String finish : FINISH) {
            CHECK.dueNoFault("2 2 m W " + finish + " q 1 g Q 1 1 m h 0 0 1 1 re W* " + finish + " q Q");
        }
        CHECK.dueFault("2 2 m W 1", 3, 9);
        CHECK.dueFault("2 2 m W 1 n", 3, 10);
    }

    private static void noPathAfterThese() {
        CHECK.says("After these there is no path.");
        for (String finish : FINISH) {
            for (String again : new String[] {"f", "f*", "n", "h", "W", "W*"}) {
                CHECK.dueFaultOfLast("0 0 m " + finish + " ", again, 5);
                CHECK.dueFaultOfLast("0 0 1 1 re W " + finish + " ", again, 5);
            }
            CHECK.dueNoFault("0 0 m " + finish);
            CHECK.dueNoFault("q 0 0 m " + finish + " Q");
            // None of its edges is in the next path, whatever their number.
            CHECK.duePicture("255 g 2 0 m 2 2 l 0 2 l 0 0 l " + finish + " 0 g 9 9 m f", "..", "..");
            CHECK.duePicture("255 g 9 9 m h 2 0 m 2 2 l 0 2 l 0 0 l " + finish + " 0 g 9 9 m h f*", "..", "..");
        }
    }

    private static void firstOfTheFaultsOfAnOperator() {
        CHECK.says("For an operator, the first of these counts: 2 there is none of that name; 6; 3; 5, 7, 8; 4; 10.");
        String far = Check.times("1 0 0 1 9000 0 cm ", 3);
        String full = "0 0 m " + Check.times("h ", 60);
        String sixSaved = Check.times("q ", 6);
        // 2 and 6, 2 and 3.
        CHECK.dueFaultOfLast("0 0 m W ", "x", 2);
        CHECK.dueFaultOfLast("1 2 3 4 5 6 7 ", "x", 2);
        // 6 and 3.
        CHECK.dueFaultOfLast("0 0 m ", "g", 6);
        CHECK.dueFaultOfLast("0 0 m 1 ", "q", 6);
        CHECK.dueFaultOfLast("0 0 m W 1 ", "l", 6);
        CHECK.dueFaultOfLast("0 0 m W* 1 ", "W", 6);
        // 6 and 7, 6 and 8, 6 and 4, 6 and 10.
        CHECK.dueFaultOfLast("0 0 m ", "Q", 6);
        CHECK.dueFaultOfLast(sixSaved + "0 0 m ", "q", 6);
        CHECK.dueFaultOfLast("0 0 m 256 ", "g", 6);
        CHECK.dueFaultOfLast("2000 0 0 1 0 0 cm 0 0 m 2000 0 0 1 0 0 ", "cm", 6);
        CHECK.dueFaultOfLast(far + "0 0 m W 9000 0 ", "m", 6);
        CHECK.dueFaultOfLast(full + "W ", "h", 6);
        CHECK.dueFaultOfLast(full + "W* 0 0 1 1 ", "re", 6);
        // 3 and 5, 3 and 7, 3 and 8, 3 and 4, 3 and 10.
        for (String name : NEED_A_PATH) {
            CHECK.dueFaultOfLast("1 ", name, 3);
        }
        CHECK.dueFaultOfLast("1 ", "Q", 3);
        CHECK.dueFaultOfLast(sixSaved + "1 ", "q", 3);
        CHECK.dueFaultOfLast("256 256 ", "g", 3);
        CHECK.dueFaultOfLast(far + "9000 ", "m", 3);
        CHECK.dueFaultOfLast("2000 0 0 1 0 0 cm 2000 0 0 1 0 ", "cm", 3);
        CHECK.dueFaultOfLast(full + "1 ", "h", 3);
        CHECK.dueFaultOfLast(full + "1 1 1 ", "re", 3);
        // 5 and 4.
        CHECK.dueFaultOfLast(far + "9000 0 ", "l", 5);
        CHECK.dueFaultOfLast(far + "9000 0 0 0 0 0 ", "c", 5);
        // 4 and 10.
        CHECK.dueFaultOfLast(far + full + "9000 0 ", "l", 4);
        CHECK.dueFaultOfLast(far + full + "0 0 0 0 9000 0 ", "c", 4);
        CHECK.dueFaultOfLast(far + full + "0 0 9000 0 ", "re", 4);
        CHECK.dueFaultOfLast(far + full + "0 0 ", "l", 10);
    }

    private static void tokenByToken() {
        CHECK.says("FAULTS are looked for token by token, 1 also for barred characters.");
        CHECK.dueFault("Q (", 7, 0);
        CHECK.dueFault("( Q", 1, 0);
        CHECK.dueFault("Q(", 7, 0);
        CHECK.dueFault("q(Q", 1, 1);
        CHECK.dueFault("1 2 3 4 5 6 7 8 (", 1, 16);
        CHECK.dueFault("x 12345", 2, 0);
        CHECK.dueFault("12345 x", 1, 0);
        CHECK.dueFault("0 0 m W 12345", 1, 8);
        CHECK.dueFault("0 0 m W )", 1, 8);
        CHECK.dueFault("%Q(x\nQ", 7, 5);
    }

    private static void placesOfTokens() {
        CHECK.says("The place of a fault is that of the first character of the token, or of the barred character, 0 the first");
        for (int before = 0; before <= 396; before += 11) {
            String blanks = Check.times(" ", before);
            CHECK.dueFault(blanks + "xyz", 2, before);
            CHECK.dueFault(blanks + "+1.", 1, before);
            CHECK.dueFault(blanks + "/", 1, before);
            CHECK.dueFault(blanks + "f*", 5, before);
        }
        // That of the operator, not of its operands.
        CHECK.dueFault("  256  g", 4, 7);
        CHECK.dueFault("9999 9999 cm", 3, 10);
        CHECK.dueFault("%%\n\n  Q", 7, 6);
    }

    private static void numbersAreLeft() {
        CHECK.says("At the end of the text: 3 if numbers are left");
        CHECK.dueNoFault("");
        CHECK.dueFault("1", 3, 1);
        CHECK.dueFault("1 ", 3, 2);
        CHECK.dueFault("1%", 3, 2);
        CHECK.dueFault("1 g 1", 3, 5);
        CHECK.dueNoFault("1 g");
        // Before a path and before what is saved.
        CHECK.dueFault("0 0 m 1", 3, 7);
        CHECK.dueFault("q 1", 3, 3);
        CHECK.dueFault("q 0 0 m W 1", 3, 11);
        CHECK.dueFault(Check.times("1 ", 7), 3, 14);
    }

    private static void pathIsLeft() {
        CHECK.says("else 11 if there is a path");
        for (String path : new String[] {"0 0 m", "0 0 1 1 re", "0 0 m h", "0 0 m 1 1 l", "0 0 m W", "0 0 m W*", "0 0 m n 0 0 m"}) {
            CHECK.dueFault(path, 11, path.length());
            CHECK.dueFault("q " + path, 11, path.length() + 2);
            CHECK.dueNoFault(path + " n");
        }
    }

    private static void somethingIsSaved() {
        CHECK.says("else 9 if something is saved");
        for (int count = 0; count <= 6; count++) {
            for (int back = 0; back <= count; back++) {
                String text = Check.times("q ", count) + Check.times("Q ", back);
                CHECK.dueFault(text, back < count ? 9 : 0, back < count ? text.length() : -1);
            }
        }
        CHECK.dueFault("q 0 0 m n", 9, 9);
    }

    private static void placeIsTheLength() {
        CHECK.says("its place is the text's length");
        for (int size = 1; size <= 400; size += 21) {
            CHECK.dueFault("1" + Check.times(" ", size - 1), 3, size);
            CHECK.dueFault("q" + Check.times("\n", size - 1), 9, size);
        }
        CHECK.dueFault("0 0 m" + Check.times(" ", 395), 11, 400);
        CHECK.dueFault("0 0 m" + Check.times(" ", 394), 11, 399);
        CHECK.dueFault(Check.times(" ", 399) + "q", 9, 400);
    }

    private static void drawingEndsWithTheFirstFault() {
        CHECK.says("With the first fault drawing ends");
        String after = " 0 0 9 9 re W f q q 7 g 0 0 9 9 re f ( x Q Q Q";
        String[] faults = {"(", "12345", "x", "1 n", "256 g", "f", "0 0 m q", "Q", "0 0 m f f"};
        int[] numbers = {1, 1, 2, 3, 4, 5, 6, 7, 5};
        for (int i = 0; i < faults.length; i++) {
            PageRaster raster = Check.fed("1 0 1 1 re f " + faults[i] + after);
            CHECK.due("draw with " + faults[i], raster.draw(3, 1), numbers[i]);
            CHECK.due("picture up to " + faults[i], Check.picture(raster, 3, 1), ".#.");
            CHECK.due("depth up to " + faults[i], raster.depth(), 0);
            CHECK.due("fills up to " + faults[i], raster.fills(), i == 8 ? 2 : 1);
            CHECK.due("clipped up to " + faults[i], raster.clipped(), 3);
        }
    }

    private static void faultyOperatorDoesNothing() {
        CHECK.says("and the faulty operator does nothing");
        String[] faults = {"0 0 3 1 re W 1 f", "0 0 3 1 re W 1 f*", "0 0 0 0 re W 1 n", "1 q", "0 0 m q", "0 0 m W W*",
            "0 0 3 1 re 9 g", "0 0 m " + Check.times("h ", 61)};
        for (String fault : faults) {
            PageRaster raster = Check.drawn("1 0 1 1 re f 0 0 2 1 re W n " + fault, 3, 1);
            CHECK.due("picture with <" + fault + ">", Check.picture(raster, 3, 1), ".#.");
            CHECK.due("fills, edges, depth with <" + fault + ">",
                raster.fills() + " " + raster.edges() + " " + raster.depth(), "1 4 0");
            CHECK.due("clipped with <" + fault + ">", raster.clipped(), 2);
        }
        // A faulty Q gives no clip back.
        PageRaster raster = Check.drawn("q 0 0 1 1 re W n 1 Q", 3, 1);
        CHECK.due("clipped with a faulty Q", raster.clipped(), 1);
        CHECK.due("depth with a faulty Q", raster.depth(), 1);
    }
}
