/** Promises 1 to 4: a new object, feed, length, clear. */
public final class TextTest {
    private static final Check CHECK = new Check();

    public static void main(String[] args) {
        newObject();
        feedTakesTheLowCodeFirst();
        feedStopsBeforeZero();
        feedTakesHighCodes();
        feedRefusesMoreThanTheTextHolds();
        clearEmptiesTheTextAlone();
        clearThenFeedBeginsAnew();
        CHECK.end();
    }

    private static void newObject() {
        PageRaster raster = new PageRaster();
        CHECK.due("new: length", raster.length(), 0);
        CHECK.due("new: fault", raster.fault(), 0);
        CHECK.due("new: faultAt", raster.faultAt(), -1);
        CHECK.due("new: pixel(0, 0)", raster.pixel(0, 0), -1);
        CHECK.due("new: area(255)", raster.area(255), 0);
        CHECK.due("new: area(0)", raster.area(0), 0);
        CHECK.due("new: fills", raster.fills(), 0);
        CHECK.due("new: edges", raster.edges(), 0);
        CHECK.due("new: depth", raster.depth(), 0);
        CHECK.due("new: clipped", raster.clipped(), 0);
        raster.clear();
        CHECK.due("new, cleared: length", raster.length(), 0);
        CHECK.due("new: draw of no text", raster.draw(20, 20), 0);
        CHECK.due("no text: area(255)", raster.area(255), 400);
    }

    private static void feedTakesTheLowCodeFirst() {
        PageRaster raster = new PageRaster();
        CHECK.due("feed of q Q", raster.feed('q' | ' ' << 8 | 'Q' << 16 | ' ' << 24), 4);
        CHECK.due("length of q Q", raster.length(), 4);
        CHECK.due("draw of q Q", raster.draw(1, 1), 0);
        CHECK.due("depth of q Q", raster.depth(), 1);
    }

    private static void feedStopsBeforeZero() {
        PageRaster raster = new PageRaster();
        CHECK.due("feed(0)", raster.feed(0), 0);
        CHECK.due("feed, zero first", raster.feed(0x20202000), 0);
        CHECK.due("feed, zero second", raster.feed(0x20200020), 1);
        CHECK.due("feed, zero third", raster.feed(0x20002020), 2);
        CHECK.due("feed, zero last", raster.feed(0x00202020), 3);
        CHECK.due("feed, no zero", raster.feed(0x20202020), 4);
        CHECK.due("length after these", raster.length(), 10);
    }

    private static void feedTakesHighCodes() {
        PageRaster raster = new PageRaster();
        CHECK.due("feed(-1)", raster.feed(-1), 4);
        CHECK.due("feed(0x80000000)", raster.feed(0x80000000), 0);
        CHECK.due("feed(0x80808080)", raster.feed(0x80808080), 4);
        CHECK.due("length of high codes", raster.length(), 8);
        CHECK.due("draw of high codes", raster.draw(1, 1), 2);
        CHECK.due("faultAt of high codes", raster.faultAt(), 0);
    }

    private static void feedRefusesMoreThanTheTextHolds() {
        PageRaster raster = Check.fed(Check.times(" ", 398));
        CHECK.due("length 398", raster.length(), 398);
        CHECK.due("feed of 3 at 398", raster.feed(0x00202020), -1);
        CHECK.due("feed of 4 at 398", raster.feed(0x20202020), -1);
        CHECK.due("length after refusal", raster.length(), 398);
        CHECK.due("feed of 2 at 398", raster.feed('q' << 8 | ' '), 2);
        CHECK.due("length 400", raster.length(), 400);
        CHECK.due("feed of 0 at 400", raster.feed(0), 0);
        CHECK.due("feed of 1 at 400", raster.feed('Q'), -1);
        CHECK.due("length stays 400", raster.length(), 400);
        CHECK.due("draw of 400", raster.draw(1, 1), 9);
        CHECK.due("faultAt of 400", raster.faultAt(), 400);
    }

    private static void clearEmptiesTheTextAlone() {
        PageRaster raster = Check.drawn("q 1 1 2 2 re W n 7 g 0 0 3 3 re f 3", 4, 5);
        raster.clear();
        CHECK.due("cleared: length", raster.length(), 0);
        CHECK.due("cleared: fault", raster.fault(), 3);
        CHECK.due("cleared: faultAt", raster.faultAt(), 35);
        CHECK.due("cleared: pixel(1, 1)", raster.pixel(1, 1), 7);
        CHECK.due("cleared: pixel(0, 4)", raster.pixel(0, 4), 255);
        CHECK.due("cleared: area(7)", raster.area(7), 4);
        CHECK.due("cleared: fills", raster.fills(), 1);
        CHECK.due("cleared: edges", raster.edges(), 4);
        CHECK.due("cleared: depth", raster.depth(), 1);
        CHECK.due("cleared: clipped", raster.clipped(), 4);
        raster.feed('g');
        CHECK.due("fed: fault", raster.fault(), 3);
        CHECK.due("fed: area(7)", raster.area(7), 4);
    }

    private static void clearThenFeedBeginsAnew() {
        PageRaster raster = Check.fed(Check.times("g", 400));
        raster.clear();
        Check.feedAll(raster, "0 0 1 1 re f");
        CHECK.due("fed anew: length", raster.length(), 12);
        CHECK.due("fed anew: draw", raster.draw(2, 2), 0);
        CHECK.due("fed anew: area(0)", raster.area(0), 1);
    }
}
