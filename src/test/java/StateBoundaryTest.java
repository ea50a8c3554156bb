/** The boundaries that the document names for the page, the state, points, matrices and greys, q and Q. */
public final class StateBoundaryTest {
    private static final Check CHECK = new Check();

    public static void main(String[] args) {
        stateAtFirst();
        valuesFrom0To255();
        greys();
        pointsInRange();
        cornersOfRectangles();
        arithmeticIsExact();
        sixSaved();
        noneSaved();
        takenBackOnce();
        matrixNumbers();
        matrixSums();
        CHECK.end();
    }

    /** Shifts by up to 4 times 9999 each way. */
    private static String shift(int x, int y) {
        return "1 0 0 1 " + x / 4 + " " + y / 4 + " cm 1 0 0 1 " + x / 4 + " " + y / 4 + " cm 1 0 0 1 "
            + x / 4 + " " + y / 4 + " cm 1 0 0 1 " + (x - 3 * (x / 4)) + " " + (y - 3 * (y / 4)) + " cm ";
    }

    private static void dueTaken(String text) {
        CHECK.dueFault(text, 11, text.length());
    }

    private static void stateAtFirst() {
        CHECK.says("a matrix a b c d e f, 1 0 0 1 0 0 at first; a grey, 0 at first; a clip, everything at first");
        String[] befores = {"", "5 g 2 1 1 2 3 3 cm 0 0 1 1 re W n", "q q 5 g 2 1 1 2 3 3 cm 0 0 0 0 re W n", "9 g 7 7 m W x"};
        for (String before : befores) {
            PageRaster raster = Check.drawn(before, 5, 5);
            raster.clear();
            Check.feedAll(raster, "1 0 2 3 re f");
            CHECK.due("draw after <" + before + ">", raster.draw(4, 4), 0);
            CHECK.due("picture after <" + before + ">", Check.picture(raster, 4, 4), "....\n.##.\n.##.\n.##.");
            CHECK.due("clipped after <" + before + ">", raster.clipped(), 16);
        }
    }

    private static void valuesFrom0To255() {
        CHECK.says("pixels have values 0 .. 255");
        for (int grey = 0; grey <= 255; grey++) {
            PageRaster raster = Check.drawn(grey + " g 0 0 1 1 re f", 2, 1);
            CHECK.due("pixel of grey " + grey, raster.pixel(0, 0), grey);
            CHECK.due("pixel beside grey " + grey, raster.pixel(1, 0), 255);
        }
    }

    private static void greys() {
        CHECK.says("the grey is v; 4 if v is not 0 .. 255");
        CHECK.dueNoFault("0 g");
        CHECK.dueNoFault("255 g");
        CHECK.dueFault("-1 g", 4, 3);
        CHECK.dueFault("256 g", 4, 4);
        CHECK.dueFault("-255 g", 4, 5);
        CHECK.dueFault("-256 g", 4, 5);
        CHECK.dueFault("512 g", 4, 4);
        CHECK.dueFault("9999 g", 4, 5);
        CHECK.dueFault("-9999 g", 4, 6);
    }

    private static void pointsInRange() {
        CHECK.says("4 if one of these is not -32767 .. 32767");
        int[][] ways = {{1, 0}, {-1, 0}, {0, 1}, {0, -1}, {1, 1}, {-1, -1}, {1, -1}, {-1, 1}};
        for (int[] way : ways) {
            // By this matrix the point in ends at 32767, out at 32768.
            String far = shift(32760 * way[0], 32760 * way[1]);
            String in = 7 * way[0] + " " + 7 * way[1] + " ";
            String out = 8 * way[0] + " " + 8 * way[1] + " ";
            dueTaken(far + in + "m");
            CHECK.dueFaultOfLast(far + out, "m", 4);
            dueTaken(far + "0 0 m " + in + "l");
            CHECK.dueFaultOfLast(far + "0 0 m " + out, "l", 4);
            dueTaken(far + "0 0 m " + in + in + in + "c");
            CHECK.dueFaultOfLast(far + "0 0 m " + out + in + in, "c", 4);
            CHECK.dueFaultOfLast(far + "0 0 m " + in + out + in, "c", 4);
            CHECK.dueFaultOfLast(far + "0 0 m " + in + in + out, "c", 4);
            dueTaken(far + "0 0 " + in + "re");
            CHECK.dueFaultOfLast(far + "0 0 " + out, "re", 4);
            dueTaken(far + in + "0 0 re");
            CHECK.dueFaultOfLast(far + out + "0 0 ", "re", 4);
        }
    }

    private static void cornersOfRectangles() {
        CHECK.says("4 if one of the four points is out of range");
        // Turned by an eighth, the corners of 0 0 1 1 re are (e, f), (e+1, f+1), (e, f+2), (e-1, f+1).
        String turned = "1 1 -1 1 0 0 cm 0 0 1 1 ";
        dueTaken(shift(0, -32767) + turned + "re");
        CHECK.dueFaultOfLast(shift(0, -32768) + turned, "re", 4);
        dueTaken(shift(32766, 0) + turned + "re");
        CHECK.dueFaultOfLast(shift(32767, 0) + turned, "re", 4);
        dueTaken(shift(0, 32765) + turned + "re");
        CHECK.dueFaultOfLast(shift(0, 32766) + turned, "re", 4);
        dueTaken(shift(-32766, 0) + turned + "re");
        CHECK.dueFaultOfLast(shift(-32767, 0) + turned, "re", 4);
        // The sums x+w and y+h may be greater than any number of the text.
        dueTaken("9999 9999 9999 9999 re");
        dueTaken("-9999 -9999 -9999 -9999 re");
    }

    private static void arithmeticIsExact() {
        CHECK.says("All arithmetic is exact.");
        // 8192 * 64 * 8192 is 2 to the 32nd, which an int takes for 0.
        String wide = "8192 0 0 1 0 0 cm 64 0 0 1 0 0 cm ";
        String high = "1 0 0 8192 0 0 cm 1 0 0 64 0 0 cm ";
        CHECK.dueFaultOfLast(wide + "8192 0 ", "m", 4);
        CHECK.dueFaultOfLast(high + "0 8192 ", "m", 4);
        CHECK.dueFaultOfLast("0 8192 1 0 0 0 cm 64 0 0 1 0 0 cm 8192 0 ", "m", 4);
        CHECK.dueFaultOfLast("0 1 8192 0 0 0 cm 1 0 0 64 0 0 cm 0 8192 ", "m", 4);
        CHECK.dueFaultOfLast(wide + "0 0 8192 1 ", "re", 4);
        CHECK.dueFaultOfLast(high + "0 0 1 8192 ", "re", 4);
        CHECK.dueFaultOfLast("4096 0 0 1 0 0 cm 128 0 0 1 0 0 cm 8192 0 0 1 0 0 ", "cm", 4);
        CHECK.dueFaultOfLast("1 0 0 4096 0 0 cm 1 0 0 128 0 0 cm 1 0 0 1 0 8192 ", "cm", 4);
        // Great parts whose sum is small: 1000000 x - 999999 y.
        dueTaken("1000 0 1 1 0 0 cm 1000 0 -1000 1 0 0 cm 9999 9999 m -9999 -9999 l");
        // An edge from one end of the range to the other, through the sample points.
        CHECK.duePicture("7 0 0 7 0 0 cm -4681 -4681 m 4681 4681 l 4681 -4681 l f", "...#", "..##", ".###", "####");
        CHECK.duePicture("7 0 0 7 0 0 cm 4681 4681 m -4681 -4681 l -4681 4681 l f", "###.", "##..", "#...", "....");
    }

    private static void sixSaved() {
        CHECK.says("q saves matrix, grey and clip; 8 if 6 are saved");
        for (int count = 1; count <= 6; count++) {
            CHECK.dueFault(Check.times("q ", count), 9, 2 * count);
            CHECK.dueNoFault(Check.times("q ", count) + Check.times("Q ", count));
        }
        CHECK.dueFault(Check.times("q ", 7), 8, 12);
        CHECK.dueFault(Check.times("q ", 6) + "Q q q", 8, 16);
        CHECK.dueNoFault(Check.times("q ", 6) + "Q q Q q " + Check.times("Q ", 6));
        CHECK.dueNoFault(Check.times("q Q ", 100));
        PageRaster raster = Check.drawn("0 0 2 2 re W n " + Check.times("q ", 5) + "0 0 1 1 re W f q q 0 0 0 0 re W n", 3, 3);
        CHECK.due("what is told where q was refused", Check.told(raster, 3, 3),
            "fault 8 at 42, fills 1, edges 4, depth 6, clipped 1, white 8\n-1-1-1-1\n...-1\n...-1\n#..-1");
    }

    private static void noneSaved() {
        CHECK.says("7 if none are");
        CHECK.dueFault("Q", 7, 0);
        CHECK.dueFault("q Q Q", 7, 4);
        CHECK.dueFault(Check.times("q ", 6) + Check.times("Q ", 7), 7, 24);
        CHECK.dueFault("0 0 1 1 re f Q", 7, 13);
        // What an earlier drawing saved is saved no more.
        PageRaster raster = Check.drawn("q q q", 2, 2);
        raster.clear();
        raster.feed('Q');
        CHECK.due("draw of Q after one that left three", raster.draw(2, 2), 7);
        PageRaster refused = Check.drawn("0 0 1 1 re W f 5 g Q", 2, 2);
        CHECK.due("what is told where Q was refused", Check.told(refused, 2, 2),
            "fault 7 at 19, fills 1, edges 4, depth 0, clipped 1, white 3\n-1-1-1\n..-1\n#.-1");
    }

    private static void takenBackOnce() {
        CHECK.says("Q takes the ones saved last back (they are saved no more)");
        // One column a level: the grey, the shift and the clip of each come back in turn.
        StringBuilder down = new StringBuilder();
        StringBuilder up = new StringBuilder();
        for (int level = 1; level <= 6; level++) {
            down.append(level).append(" g 1 0 0 1 1 0 cm 0 0 9 9 re W n q ");
            up.append("0 0 1 1 re f Q ");
        }
        CHECK.duePicture("9 g " + down + "7 g " + up + "0 0 1 1 re f", ".123456.");
        CHECK.duePicture("5 g q 6 g q 7 g Q Q 0 0 1 1 re f", "5");
        CHECK.duePicture("q 2 0 0 2 0 0 cm q 3 g Q Q 0 0 1 1 re f", "..", "#.");
        // All six numbers of the matrix are saved and come back: a rectangle turned and shifted.
        CHECK.duePicture("0 1 -1 0 3 1 cm q 2 5 7 3 4 6 cm Q 0 0 2 1 re f", "....", "..#.", "..#.", "....");
        CHECK.duePicture("0 1 -1 0 3 1 cm q 0 0 2 1 re f Q", "....", "..#.", "..#.", "....");
    }

    private static void matrixNumbers() {
        CHECK.says("4 if one of its six numbers is not -1000000 .. 1000000");
        String[] signs = {"", "-"};
        for (int at = 0; at < 6; at++) {
            for (String sign : signs) {
                String zeros = Check.times("0 ", at);
                String rest = Check.times("0 ", 5 - at);
                CHECK.dueNoFault("1000 0 0 1000 0 0 cm " + zeros + sign + "1000 " + rest + "cm");
                // 101 times 9901 is 1000001.
                CHECK.dueFaultOfLast("101 0 0 101 0 0 cm " + zeros + sign + "9901 " + rest, "cm", 4);
                CHECK.dueFaultOfLast("9999 0 0 9999 0 0 cm " + zeros + sign + "9999 " + rest, "cm", 4);
                CHECK.dueNoFault(zeros + sign + "9999 " + rest + "cm");
            }
        }
        // A refused cm ends the drawing and changes nothing that is told.
        PageRaster raster = Check.drawn("0 0 1 1 re f 101 0 0 1 0 0 cm 9901 0 0 1 0 0 cm 0 0 1 1 re f", 2, 2);
        CHECK.due("what is told where cm was refused", Check.told(raster, 2, 2),
            "fault 4 at 45, fills 1, edges 4, depth 0, clipped 4, white 3\n-1-1-1\n..-1\n#.-1");
    }

    private static void matrixSums() {
        CHECK.says("the new matrix takes (x, y) to (a x + c y + e, b x + d y + f) and then through the old one");
        // The shift is 1000 times 1000 and what was there before.
        String[][] shifts = {{"1 0", "1000 0"}, {"-1 0", "-1000 0"}, {"0 1", "0 1000"}, {"0 -1", "0 -1000"}};
        for (String[] pair : shifts) {
            CHECK.dueNoFault("1000 0 0 1000 0 0 cm 1 0 0 1 " + pair[1] + " cm");
            CHECK.dueFaultOfLast("1 0 0 1 " + pair[0] + " cm 1000 0 0 1000 0 0 cm 1 0 0 1 " + pair[1] + " ", "cm", 4);
        }
        CHECK.dueNoFault("1 0 0 1 1 -1 cm 1000 0 0 1000 0 0 cm 1 0 0 1 -1000 1000 cm");
        // Each number but the shift is a sum of two products: 999 * 1000 + 1000 and + 1001.
        CHECK.dueNoFault("999 0 1 1 0 0 cm 1000 1000 0 0 0 0 cm");
        CHECK.dueFaultOfLast("999 0 1 1 0 0 cm 1000 1001 0 0 0 0 ", "cm", 4);
        CHECK.dueNoFault("1 999 1 1 0 0 cm 1000 1000 0 0 0 0 cm");
        CHECK.dueFaultOfLast("1 999 1 1 0 0 cm 1000 1001 0 0 0 0 ", "cm", 4);
        CHECK.dueNoFault("999 0 1 1 0 0 cm 0 0 1000 1000 0 0 cm");
        CHECK.dueFaultOfLast("999 0 1 1 0 0 cm 0 0 1000 1001 0 0 ", "cm", 4);
        CHECK.dueNoFault("1 999 1 1 0 0 cm 0 0 1000 1000 0 0 cm");
        CHECK.dueFaultOfLast("1 999 1 1 0 0 cm 0 0 1000 1001 0 0 ", "cm", 4);
        CHECK.dueNoFault("999 0 1 1 0 0 cm 1 0 0 1 1000 1000 cm");
        CHECK.dueFaultOfLast("999 0 1 1 0 0 cm 1 0 0 1 1000 1001 ", "cm", 4);
        // The old shift is no part of the first four numbers.
        CHECK.dueNoFault("1 0 0 1 9999 9999 cm 1000 0 0 1000 0 0 cm 1000 1000 1000 1000 0 0 cm");
    }
}
