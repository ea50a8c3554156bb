/** What README.md says holds: its two examples, an example of each operator, and one of each fault's number. */
public final class ReadmeTest {
    private static final Check CHECK = new Check();

    public static void main(String[] args) {
        examples();
        operators();
        faultNumbers();
        CHECK.end();
    }

    private static void examples() {
        PageRaster raster = new PageRaster();
        String text = "7 g 1 1 2 2 re f";
        for (int at = 0; at < text.length(); at += 4) {
            int w = 0;
            for (int i = 0; i < 4 && at + i < text.length(); i++) {
                w |= text.charAt(at + i) << 8 * i;
            }
            raster.feed(w);
        }
        CHECK.due("draw", raster.draw(4, 4), 0);
        CHECK.due("pixel", raster.pixel(1, 1), 7);
        CHECK.due("area", raster.area(7), 4);
        raster.feed(' ' | 'Q' << 8);
        CHECK.due("draw with Q", raster.draw(4, 4), 7);
        CHECK.due("faultAt with Q", raster.faultAt(), 17);
        CHECK.due("area with Q", raster.area(7), 4);
    }

    private static void operators() {
        CHECK.duePicture("q 3 g Q 0 0 1 1 re f", "..", "#.");
        CHECK.duePicture("1 0 0 1 1 0 cm 0 0 1 1 re f", "..", ".#");
        CHECK.duePicture("% a comment\n0 0 m 3 0 l 3 +3 l 0 3 l h f", "###", "###", "###");
        // By (1, 2), (2, 3) and (3, 2); at height 5/2 the edges stand on two sample points, of which the left one is inside.
        CHECK.duePicture("0 0 m 0 4 4 4 4 0 c f", "....", ".#..", ".##.", "####");
        CHECK.duePicture("0 0 3 3 re 1 1 1 1 re f", "###", "###", "###");
        CHECK.duePicture("0 0 3 3 re 1 1 1 1 re f*", "###", "#.#", "###");
        CHECK.duePicture("0 0 3 3 re 1 1 1 1 re W n 0 0 3 3 re f", "###", "###", "###");
        CHECK.duePicture("0 0 3 3 re 1 1 1 1 re W* n 0 0 3 3 re f", "###", "#.#", "###");
    }

    private static void faultNumbers() {
        CHECK.dueFault("12345 g", 1, 0);
        CHECK.dueFault("5 g/", 1, 3);
        CHECK.dueFault("go", 2, 0);
        CHECK.dueFault("1 m", 3, 2);
        CHECK.dueFault("1", 3, 1);
        CHECK.dueFault("256 g", 4, 4);
        CHECK.dueFault("1 1 l", 5, 4);
        CHECK.dueFault("1 1 m q", 6, 6);
        CHECK.dueFault("1 1 m W h", 6, 8);
        CHECK.dueFault("Q", 7, 0);
        CHECK.dueFault("q q q q q q q", 8, 12);
        CHECK.dueFault("q", 9, 1);
        CHECK.dueFault("1 1 m " + Check.times("h ", 61), 10, 126);
        CHECK.dueFault("1 1 m", 11, 5);
    }
}
