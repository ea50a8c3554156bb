/** Promise 13 and the clip: W, W*, q and Q. */
public final class ClipTest {
    private static final Check CHECK = new Check();

    public static void main(String[] args) {
        cutsBehindTheFilling();
        holdsForLaterFills();
        cutsAgain();
        rules();
        comesBackWithQ();
        emptyClips();
        counts();
        CHECK.end();
    }

    private static void dueClipped(String text, int width, int height, int want) {
        CHECK.due("clipped of <" + text + ">", Check.drawn(text, width, height).clipped(), want);
    }

    private static void cutsBehindTheFilling() {
        CHECK.duePicture("0 0 4 4 re 1 1 2 2 re W* f 7 g 0 0 4 4 re f", "7777", "7##7", "7##7", "7777");
        CHECK.duePicture("0 0 4 4 re 1 1 2 2 re W f* 7 g 0 0 4 4 re f", "7777", "7777", "7777", "7777");
        CHECK.duePicture("0 0 4 4 re 1 1 2 2 re W f* 7 g 1 1 2 2 re f", "####", "#77#", "#77#", "####");
    }

    private static void holdsForLaterFills() {
        CHECK.duePicture("0 0 2 2 re W n 1 0 3 3 re f 5 g 0 0 1 9 re f", "....", "5#..", "5#..");
        CHECK.duePicture("0 0 2 2 re n 1 0 3 3 re f", ".###", ".###", ".###");
        // W cuts once.
        CHECK.duePicture("0 0 3 3 re W n 2 2 1 1 re n 0 0 4 4 re f", "....", "###.", "###.", "###.");
    }

    private static void cutsAgain() {
        CHECK.duePicture("0 0 3 3 re W n 1 1 3 3 re W* n 0 0 9 9 re f", "....", ".##.", ".##.", "....");
        dueClipped("0 0 3 3 re W n 1 1 3 3 re W* n", 9, 9, 4);
    }

    private static void rules() {
        dueClipped("0 0 4 4 re 1 1 2 2 re W n", 5, 5, 16);
        dueClipped("0 0 4 4 re 1 1 2 2 re W* n", 5, 5, 12);
        dueClipped("0 0 4 4 re 1 3 2 -2 re W n", 5, 5, 12);
        dueClipped("0 0 m 4 0 l 0 4 l W f", 5, 5, 6);
    }

    private static void comesBackWithQ() {
        CHECK.duePicture("q 0 0 1 1 re W n Q 0 0 2 2 re f", "##", "##");
        CHECK.duePicture("0 0 1 2 re W n q 0 0 2 1 re W n 3 g 0 0 2 2 re f Q 4 g 0 1 2 1 re f", "4.", "3.");
        dueClipped("q 0 0 1 1 re W n Q", 4, 3, 12);
        dueClipped("0 0 2 2 re W n q 0 0 1 1 re W n Q", 4, 3, 4);
        dueClipped("0 0 2 2 re W n q q 0 0 1 1 re W n Q", 4, 3, 4);
        // All six levels are apart.
        String down = "0 0 6 6 re W n q 0 0 5 5 re W n q 0 0 4 4 re W n q 0 0 3 3 re W n q 0 0 2 2 re W n q 0 0 1 1 re W n q 0 0 0 0 re W n";
        for (int up = 0; up <= 6; up++) {
            dueClipped(down + Check.times(" Q", up), 8, 8, up * up);
        }
    }

    private static void emptyClips() {
        CHECK.duePicture("0 0 m W n 0 0 3 3 re f", "...", "...");
        dueClipped("0 0 m W n", 3, 3, 0);
        dueClipped("7 7 2 2 re W n", 3, 3, 0);
        dueClipped("0 0 1 1 re W n 1 1 1 1 re W n", 3, 3, 0);
    }

    private static void counts() {
        dueClipped("", 1, 1, 1);
        dueClipped("", 20, 20, 400);
        dueClipped("0 0 9 9 re f", 7, 3, 21);
        dueClipped("-5 -5 100 100 re W n", 7, 3, 21);
        dueClipped("0 0 20 20 re W n", 20, 20, 400);
        dueClipped("19 19 1 1 re W n", 20, 20, 1);
        // Where the fault was met.
        dueClipped("0 0 1 1 re W n x 0 0 0 0 re W n", 3, 3, 1);
        dueClipped("q 0 0 1 1 re W n", 3, 3, 1);
        dueClipped("q 0 0 1 1 re W n x", 3, 3, 1);
        dueClipped("0 0 1 1 re W", 3, 3, 9);
        dueClipped("0 0 1 1 re W 1 n", 3, 3, 9);
        dueClipped("q 0 0 1 1 re W n 1 Q", 3, 3, 1);
        PageRaster raster = Check.drawn("q q 1 1 1 1 re W n", 3, 3);
        raster.clear();
        CHECK.due("cleared: clipped", raster.clipped(), 1);
        raster.draw(2, 5);
        CHECK.due("drawn anew: clipped", raster.clipped(), 10);
    }
}
