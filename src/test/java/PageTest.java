/** Promises 5, 8 and 9: draw's page, pixel, area. */
public final class PageTest {
    private static final Check CHECK = new Check();

    public static void main(String[] args) {
        sizesThatAreRefused();
        sizesThatAreTaken();
        refusedDrawChangesNothing();
        everyDrawingHasANewPage();
        pixelsOutside();
        areas();
        laterFillsCoverEarlierOnes();
        twoObjectsAreApart();
        CHECK.end();
    }

    private static void sizesThatAreRefused() {
        PageRaster raster = Check.fed("0 0 1 1 re f");
        int[] bad = {0, 21, -1, 22, 256, Integer.MAX_VALUE, Integer.MIN_VALUE};
        for (int side : bad) {
            CHECK.due("draw(" + side + ", 5)", raster.draw(side, 5), -1);
            CHECK.due("draw(5, " + side + ")", raster.draw(5, side), -1);
            CHECK.due("draw(" + side + ", " + side + ")", raster.draw(side, side), -1);
        }
        CHECK.due("never drawn: pixel(0, 0)", raster.pixel(0, 0), -1);
        CHECK.due("never drawn: area(255)", raster.area(255), 0);
        CHECK.due("never drawn: fills", raster.fills(), 0);
        CHECK.due("never drawn: clipped", raster.clipped(), 0);
        CHECK.due("never drawn: faultAt", raster.faultAt(), -1);
    }

    private static void sizesThatAreTaken() {
        PageRaster raster = new PageRaster();
        for (int width = 1; width <= 20; width++) {
            for (int height = 1; height <= 20; height++) {
                CHECK.due("draw(" + width + ", " + height + ")", raster.draw(width, height), 0);
                CHECK.due("area(255)", raster.area(255), width * height);
                CHECK.due("clipped()", raster.clipped(), width * height);
                CHECK.due("last pixel", raster.pixel(width - 1, height - 1), 255);
                CHECK.due("pixel right of the last", raster.pixel(width, height - 1), -1);
                CHECK.due("pixel above the last", raster.pixel(width - 1, height), -1);
            }
            raster = new PageRaster();
        }
        raster = Check.drawn("0 0 20 20 re f", 20, 20);
        CHECK.due("full page: area(0)", raster.area(0), 400);
        raster = Check.drawn("3 g -9999 -9999 9999 9999 re 0 0 9999 9999 re f", 20, 20);
        CHECK.due("full page: area(3)", raster.area(3), 400);
    }

    private static void refusedDrawChangesNothing() {
        PageRaster raster = Check.drawn("q 0 0 2 2 re W f 1 g x", 4, 3);
        raster.clear();
        Check.feedAll(raster, "0 0 4 4 re f");
        CHECK.due("refused: draw(4, 21)", raster.draw(4, 21), -1);
        CHECK.due("refused: length", raster.length(), 12);
        CHECK.due("refused: fault", raster.fault(), 2);
        CHECK.due("refused: faultAt", raster.faultAt(), 21);
        CHECK.due("refused: page", Check.picture(raster, 4, 3), "....\n##..\n##..");
        CHECK.due("refused: fills", raster.fills(), 1);
        CHECK.due("refused: edges", raster.edges(), 4);
        CHECK.due("refused: depth", raster.depth(), 1);
        CHECK.due("refused: clipped", raster.clipped(), 4);
    }

    private static void everyDrawingHasANewPage() {
        PageRaster raster = Check.drawn("9 g 3 0 0 3 1 1 cm q q 0 0 1 1 re W f 2 2 m 5", 6, 6);
        CHECK.due("first: fault", raster.fault(), 3);
        raster.clear();
        Check.feedAll(raster, "0 0 2 1 re f");
        CHECK.due("second: draw", raster.draw(3, 2), 0);
        CHECK.due("second: page", Check.picture(raster, 3, 2), "...\n##.");
        CHECK.due("second: pixel(3, 1)", raster.pixel(3, 1), -1);
        CHECK.due("second: faultAt", raster.faultAt(), -1);
        CHECK.due("second: fills", raster.fills(), 1);
        CHECK.due("second: depth", raster.depth(), 0);
        CHECK.due("second: clipped", raster.clipped(), 6);
        CHECK.due("third: draw of the same text", raster.draw(6, 6), 0);
        CHECK.due("third: area(0)", raster.area(0), 2);
        CHECK.due("third: area(9)", raster.area(9), 0);
        CHECK.due("third: area(255)", raster.area(255), 34);
        raster.clear();
        CHECK.due("fourth: draw of no text", raster.draw(2, 2), 0);
        CHECK.due("fourth: area(255)", raster.area(255), 4);
        CHECK.due("fourth: fills", raster.fills(), 0);
        CHECK.due("fourth: edges", raster.edges(), 0);
    }

    private static void pixelsOutside() {
        PageRaster raster = Check.drawn("0 0 9 9 re f", 3, 2);
        int[] bad = {-1, 20, 400, Integer.MIN_VALUE, Integer.MAX_VALUE};
        for (int at : bad) {
            CHECK.due("pixel(" + at + ", 0)", raster.pixel(at, 0), -1);
            CHECK.due("pixel(0, " + at + ")", raster.pixel(0, at), -1);
        }
        CHECK.due("pixel(3, 0)", raster.pixel(3, 0), -1);
        CHECK.due("pixel(0, 2)", raster.pixel(0, 2), -1);
        CHECK.due("pixel(-1, 1)", raster.pixel(-1, 1), -1);
        CHECK.due("pixel(2, 1)", raster.pixel(2, 1), 0);
        CHECK.due("pixel(0, 0)", raster.pixel(0, 0), 0);
    }

    private static void areas() {
        PageRaster raster = Check.drawn("1 g 0 0 2 2 re f 254 g 1 0 1 1 re f 255 g 0 0 1 1 re f", 4, 4);
        CHECK.due("area(1)", raster.area(1), 2);
        CHECK.due("area(254)", raster.area(254), 1);
        CHECK.due("area(255)", raster.area(255), 13);
        CHECK.due("area(0)", raster.area(0), 0);
        CHECK.due("area(-1)", raster.area(-1), 0);
        CHECK.due("area(256)", raster.area(256), 0);
        CHECK.due("area(257)", raster.area(257), 0);
        CHECK.due("area(MIN)", raster.area(Integer.MIN_VALUE), 0);
        CHECK.due("area(MAX)", raster.area(Integer.MAX_VALUE), 0);
    }

    private static void laterFillsCoverEarlierOnes() {
        CHECK.duePicture("0 0 3 3 re f 5 g 1 1 3 3 re f 6 g 2 0 1 4 re f 255 g 3 3 1 1 re f",
            ".56.", "#565", "#565", "##6.");
    }

    private static void twoObjectsAreApart() {
        PageRaster first = Check.drawn("0 0 1 1 re f", 2, 2);
        PageRaster second = Check.drawn("q 5 g 0 0 2 2 re W* f", 3, 3);
        CHECK.due("first: length", first.length(), 12);
        CHECK.due("first: area(0)", first.area(0), 1);
        CHECK.due("first: fault", first.fault(), 0);
        CHECK.due("second: area(5)", second.area(5), 4);
        CHECK.due("second: fault", second.fault(), 9);
    }
}
