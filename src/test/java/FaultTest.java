/** Promises 5 to 7: the faults' numbers, their order and their places. */
public final class FaultTest {
    private static final String[] ALL =
        {"q", "Q", "cm", "g", "m", "l", "h", "re", "c", "W", "W*", "f", "f*", "n"};
    private static final int[] OPERANDS = {0, 0, 6, 1, 2, 2, 0, 4, 6, 0, 0, 0, 0, 0};
    private static final Check CHECK = new Check();

    public static void main(String[] args) {
        operandCounts();
        withoutAPath();
        outOfPlaceInAPath();
        outOfPlaceAfterClip();
        saving();
        ranges();
        matrixRanges();
        tooManyEdges();
        orderOfFaults();
        atTheEnd();
        theFirstFaultEndsTheDrawing();
        CHECK.end();
    }

    private static String operands(int count) {
        return Check.times("1 ", count);
    }

    private static boolean isOneOf(String name, String... names) {
        return java.util.Arrays.asList(names).contains(name);
    }

    private static void operandCounts() {
        for (int i = 0; i < ALL.length; i++) {
            String before = isOneOf(ALL[i], "q", "cm", "g", "m", "re") ? ""
                : ALL[i].equals("Q") ? "q " : "0 0 m ";
            String after = ALL[i].equals("q") ? " Q" : isOneOf(ALL[i], "m", "l", "h", "re", "c", "W", "W*") ? " n" : "";
            for (int count = 0; count <= 8; count++) {
                String text = before + operands(count) + ALL[i];
                if (count == OPERANDS[i]) {
                    CHECK.dueNoFault(text + after);
                } else {
                    CHECK.dueFault(text, 3, text.length() - ALL[i].length());
                }
            }
        }
        CHECK.dueFault(operands(199) + "m", 3, 398);
        CHECK.dueFault("1 g g", 3, 4);
    }

    private static void withoutAPath() {
        for (int i = 0; i < ALL.length; i++) {
            if (isOneOf(ALL[i], "l", "h", "c", "W", "W*", "f", "f*", "n")) {
                String numbers = operands(OPERANDS[i]);
                CHECK.dueFault(numbers + ALL[i], 5, numbers.length());
                for (String end : new String[] {"f", "f*", "n"}) {
                    String before = "1 1 m " + end + " " + numbers;
                    CHECK.dueFault(before + ALL[i], 5, before.length());
                }
            }
        }
        CHECK.dueFault("1 1 1 1 re h W f h", 5, 17);
    }

    private static void outOfPlaceInAPath() {
        for (String path : new String[] {"1 1 m ", "1 1 2 2 re ", "1 1 m h ", "1 1 m 2 2 l "}) {
            for (String name : new String[] {"q", "Q", "cm", "g"}) {
                CHECK.dueFault(path + name, 6, path.length());
                CHECK.dueFault("q " + path + "1 300 " + name, 6, path.length() + 8);
            }
        }
        CHECK.dueNoFault("1 1 m 2 2 m 1 1 1 1 re n");
    }

    private static void outOfPlaceAfterClip() {
        for (String clip : new String[] {"W ", "W* "}) {
            for (int i = 0; i < ALL.length; i++) {
                String before = "1 1 m " + clip + operands(OPERANDS[i]);
                if (isOneOf(ALL[i], "f", "f*", "n")) {
                    CHECK.dueNoFault(before + ALL[i] + " 2 2 m 3 3 l n");
                } else {
                    CHECK.dueFault(before + ALL[i], 6, before.length());
                }
            }
            CHECK.dueFault("1 1 m " + clip + "9 n", 3, 8 + clip.length());
        }
    }

    private static void saving() {
        CHECK.dueFault("Q", 7, 0);
        CHECK.dueFault("q Q Q", 7, 4);
        CHECK.dueFault("q q Q Q q Q Q", 7, 12);
        CHECK.dueNoFault("q q q q q q Q Q Q Q Q Q");
        CHECK.dueNoFault("q q q q q q Q q Q Q Q Q Q Q");
        CHECK.dueFault("q q q q q q q", 8, 12);
        CHECK.dueFault("q q q q q q 1 q", 3, 14);
        CHECK.dueFault("1 Q", 3, 2);
    }

    private static void ranges() {
        CHECK.dueNoFault("0 g 255 g");
        CHECK.dueFault("256 g", 4, 4);
        CHECK.dueFault("-1 g", 4, 3);
        // The matrix puts the text's origin at 32760, -32760.
        String far = "1 0 0 1 8190 -8190 cm ";
        String corner = Check.times(far, 4);
        CHECK.dueNoFault(corner + "7 -7 m 7 -7 l 7 -7 7 -7 7 -7 c n");
        int place = corner.length();
        CHECK.dueFault(corner + "8 0 m", 4, place + 4);
        CHECK.dueFault(corner + "0 -8 m", 4, place + 5);
        CHECK.dueFault(corner + "0 0 m 8 0 l", 4, place + 10);
        CHECK.dueFault(corner + "0 0 m 0 -8 l", 4, place + 11);
        CHECK.dueFault(corner + "0 0 m 8 0 0 0 0 0 c", 4, place + 18);
        CHECK.dueFault(corner + "0 0 m 0 0 0 -8 0 0 c", 4, place + 19);
        CHECK.dueFault(corner + "0 0 m 0 0 0 0 8 0 c", 4, place + 18);
        CHECK.dueNoFault(corner + "7 -7 0 0 re 0 0 7 -7 re 7 0 -7 -7 re n");
        CHECK.dueFault(corner + "8 -7 -1 0 re", 4, place + 10);
        CHECK.dueFault(corner + "7 -7 1 0 re", 4, place + 9);
        CHECK.dueFault(corner + "7 -7 0 -1 re", 4, place + 10);
        CHECK.dueNoFault("-1 0 0 -1 0 0 cm " + corner + "7 -7 m n");
        CHECK.dueFault("-1 0 0 -1 0 0 cm " + corner + "8 0 m", 4, place + 21);
        CHECK.dueFault("-1 0 0 -1 0 0 cm " + corner + "0 -8 m", 4, place + 22);
        CHECK.dueNoFault("9999 9999 9999 9999 re -9999 -9999 -9999 -9999 re n");
        // Only the third corner of the sheared rectangle is out of range.
        String shear = "2 0 2 1 0 0 cm ";
        CHECK.dueFault(shear + "0 0 8192 8192 re", 4, 29);
        CHECK.dueNoFault(shear + "0 0 8192 8191 re n");
        // Products that would wrap around an int to 0: 8192 * 64 * 8192 is 2 to the 32nd.
        CHECK.dueFault("8192 0 0 1 0 0 cm 64 0 0 1 0 0 cm 8192 2 m", 4, 41);
        CHECK.dueFault("8192 0 0 1 0 0 cm 64 0 0 1 0 0 cm 0 0 8192 1 re", 4, 45);
        CHECK.dueFault("0 8192 0 1 0 0 cm 64 0 0 1 0 0 cm 8192 2 m", 4, 41);
    }

    private static void matrixRanges() {
        CHECK.dueNoFault("1000 0 0 1000 0 0 cm 1000 1000 -1000 -1000 1000 -1000 cm");
        String thousand = "1000 0 0 1000 0 0 cm ";
        for (int i = 0; i < 6; i++) {
            for (String number : new String[] {"1001 ", "-1001 "}) {
                String text = thousand + Check.times("0 ", i) + number + Check.times("0 ", 5 - i);
                CHECK.dueFault(text + "cm", 4, text.length());
            }
        }
        String sums = "999 0 0 1 0 0 cm 1 0 0 1 1001 0 cm 1 0 0 1 0 0 cm";
        CHECK.dueNoFault(sums);
        CHECK.dueNoFault("1 0 0 1 1 -1 cm " + thousand + "1 0 0 1 999 -999 cm");
        CHECK.dueFault("1 0 0 1 1 0 cm " + thousand + "1 0 0 1 1000 0 cm", 4, 51);
        CHECK.dueFault("1 0 0 1 0 -1 cm " + thousand + "1 0 0 1 0 -1000 cm", 4, 53);
        // 4096 * 128 * 8192 is 0 in an int.
        CHECK.dueFault("4096 0 0 1 0 0 cm 128 0 0 1 0 0 cm 8192 0 0 1 0 0 cm", 4, 50);
    }

    private static void tooManyEdges() {
        CHECK.dueNoFault("1 1 m " + Check.times("h ", 60) + "n");
        CHECK.dueFault("1 1 m " + Check.times("h ", 61) + "n", 10, 126);
        CHECK.dueNoFault(Check.times("1 1 1 1 re ", 15) + "W f");
        CHECK.dueFault(Check.times("1 1 1 1 re ", 15) + "h", 10, 165);
        CHECK.dueFault(Check.times("1 1 1 1 re ", 15) + "0 0 l", 10, 169);
        CHECK.dueNoFault(Check.times("1 1 1 1 re ", 15) + "0 0 m n");
        CHECK.dueFault(Check.times("1 1 1 1 re ", 16), 10, 173);
        CHECK.dueNoFault("1 1 m " + Check.times("h ", 56) + "0 0 1 1 2 2 c f*");
        CHECK.dueFault("1 1 m " + Check.times("h ", 57) + "0 0 1 1 2 2 c", 10, 132);
        CHECK.dueNoFault("1 1 m " + Check.times("h ", 56) + "0 0 1 1 re f*");
        CHECK.dueFault("1 1 m " + Check.times("h ", 57) + "0 0 1 1 re", 10, 128);
        // The count is that of one path, and counts no added edges.
        CHECK.dueNoFault("1 1 m " + Check.times("h ", 60) + "n 1 1 m " + Check.times("h ", 60) + "n");
        CHECK.dueNoFault(Check.times("1 1 m 2 3 l ", 30) + "n");
        CHECK.dueNoFault("1 1 m " + Check.times("h ", 59) + "2 3 l f");
    }

    private static void orderOfFaults() {
        String far = Check.times("1 0 0 1 9000 0 cm ", 3);
        String full = "1 1 m " + Check.times("h ", 60);
        CHECK.dueFault("1 2 3 x", 2, 6);
        CHECK.dueFault("0 0 m W x", 2, 8);
        CHECK.dueFault("0 0 m 1 2 3 g", 6, 12);
        CHECK.dueFault("0 0 m W 1 l", 6, 10);
        CHECK.dueFault("0 0 m Q", 6, 6);
        CHECK.dueFault("q q q q q q 0 0 m q", 6, 18);
        CHECK.dueFault("0 0 m 300 g", 6, 10);
        CHECK.dueFault("0 0 m 9999 0 0 9999 0 0 cm", 6, 24);
        CHECK.dueFault("0 0 m W h", 6, 8);
        CHECK.dueFault(full + "W h", 6, 128);
        CHECK.dueFault("1 l", 3, 2);
        CHECK.dueFault("1 2 f", 3, 4);
        CHECK.dueFault("300 300 g", 3, 8);
        CHECK.dueFault(full + "1 h", 3, 128);
        CHECK.dueFault(full + "1 l", 3, 128);
        CHECK.dueFault(far + "9999 0 l", 5, far.length() + 7);
        CHECK.dueFault(far + "9999 0 0 0 0 0 c", 5, far.length() + 15);
        CHECK.dueFault(far + full + "9999 0 l", 4, far.length() + 133);
        CHECK.dueFault(far + full + "9999 0 0 0 re", 4, far.length() + 137);
        CHECK.dueFault(far + full + "0 0 9999 0 0 0 c", 4, far.length() + 141);
        // A faulty token or barred character counts where it stands, not before.
        CHECK.dueFault("x (", 2, 0);
        CHECK.dueFault("( x", 1, 0);
        CHECK.dueFault("Q 12345", 7, 0);
        CHECK.dueFault("12345 Q", 1, 0);
        CHECK.dueFault("1 1 m 2 2 l 12a f", 1, 12);
    }

    private static void atTheEnd() {
        CHECK.dueFault("5", 3, 1);
        CHECK.dueFault("5 %", 3, 3);
        CHECK.dueFault("5 \n", 3, 3);
        CHECK.dueFault("q 5", 3, 3);
        CHECK.dueFault("1 1 m 5", 3, 7);
        CHECK.dueFault("q 1 1 m 5", 3, 9);
        CHECK.dueFault("1 1 m", 11, 5);
        CHECK.dueFault("1 1 1 1 re W ", 11, 13);
        CHECK.dueFault("q 1 1 m h", 11, 9);
        CHECK.dueFault("q", 9, 1);
        CHECK.dueFault("q q Q  % Q", 9, 10);
        CHECK.dueFault("q 1 1 m n", 9, 9);
    }

    private static void theFirstFaultEndsTheDrawing() {
        PageRaster raster = Check.drawn("0 0 1 1 re f x 7 g 1 0 1 1 re f q Q", 3, 2);
        CHECK.due("first fault: fault", raster.fault(), 2);
        CHECK.due("first fault: faultAt", raster.faultAt(), 13);
        CHECK.due("first fault: page", Check.picture(raster, 3, 2), "...\n#..");
        CHECK.due("first fault: fills", raster.fills(), 1);
        CHECK.due("first fault: depth", raster.depth(), 0);
        // A faulty operator does nothing.
        raster = Check.drawn("0 0 1 1 re 1 f", 3, 2);
        CHECK.due("faulty f: area(0)", raster.area(0), 0);
        CHECK.due("faulty f: fills", raster.fills(), 0);
        CHECK.due("faulty f: edges", raster.edges(), 0);
        // The text, the fault and all else are looked at anew by each drawing.
        raster = Check.fed("q");
        CHECK.due("draw again: first", raster.draw(2, 2), 9);
        raster.feed(' ' | 'Q' << 8);
        CHECK.due("draw again: fault stays until then", raster.fault(), 9);
        CHECK.due("draw again: second", raster.draw(2, 2), 0);
        CHECK.due("draw again: fault", raster.fault(), 0);
        CHECK.due("draw again: faultAt", raster.faultAt(), -1);
    }
}
