/** The boundaries that the document names in promises 5 to 13: each "-1 if", "0 if", "and all stays". */
public final class PromiseBoundaryTest {
    private static final int[] WRONG_SIDES =
        {0, 21, -1, 22, -20, 255, 256, 257, 65537, Integer.MAX_VALUE, Integer.MIN_VALUE, Integer.MIN_VALUE + 1};
    private static final Check CHECK = new Check();

    public static void main(String[] args) {
        sizesOfThePage();
        refusedSizes();
        allStaysWhenRefused();
        allStaysOfANewObject();
        newPageIsWhite();
        textStays();
        pageUpToTheFault();
        faultAndPlace();
        pixels();
        columnsAndRows();
        areas();
        fills();
        edges();
        depth();
        clipped();
        CHECK.end();
    }

    private static void sizesOfThePage() {
        CHECK.says("Draws the text on a new page of that size ... 1 .. 20");
        for (int width = 1; width <= 20; width++) {
            for (int height = 1; height <= 20; height++) {
                PageRaster raster = Check.fed("5 g 0 0 20 20 re f");
                CHECK.due("draw(" + width + ", " + height + ")", raster.draw(width, height), 0);
                CHECK.due("area(5)", raster.area(5), width * height);
                CHECK.due("clipped", raster.clipped(), width * height);
            }
        }
    }

    private static void refusedSizes() {
        CHECK.says("-1 ... if width or height is not 1 .. 20");
        for (int side : WRONG_SIDES) {
            for (int right : new int[] {1, 20}) {
                CHECK.due("draw(" + side + ", " + right + ")", new PageRaster().draw(side, right), -1);
                CHECK.due("draw(" + right + ", " + side + ")", new PageRaster().draw(right, side), -1);
            }
            CHECK.due("draw(" + side + ", " + side + ")", new PageRaster().draw(side, side), -1);
        }
    }

    private static void allStaysWhenRefused() {
        CHECK.says("and all stays");
        String[] texts = {"", "q 0 0 2 2 re W f 1 g x", "q q Q Q 5 g 0 0 m 3 0 l 3 2 l f 0 0 1 1 re W* n", "q q 0 0 m 5"};
        for (String text : texts) {
            PageRaster raster = Check.drawn(text, 4, 3);
            String before = Check.told(raster, 4, 3);
            raster.clear();
            Check.feedAll(raster, "q 0 0 9 9 re f Q Q");
            for (int side : WRONG_SIDES) {
                CHECK.due("draw(" + side + ", 7)", raster.draw(side, 7), -1);
                CHECK.due("draw(7, " + side + ")", raster.draw(7, side), -1);
                CHECK.due("length", raster.length(), 18);
                CHECK.due("counts after <" + text + ">", Check.counts(raster), before.substring(0, before.indexOf(", white")));
            }
            CHECK.due("what is told after <" + text + ">", Check.told(raster, 4, 3), before);
            CHECK.due("draw at last", raster.draw(2, 2), 7);
            CHECK.due("faultAt at last", raster.faultAt(), 17);
            CHECK.due("picture at last", Check.picture(raster, 2, 2), "##\n##");
        }
    }

    private static void allStaysOfANewObject() {
        CHECK.says("and all stays");
        PageRaster raster = Check.fed("0 0 9 9 re f x");
        CHECK.due("draw(0, 1)", raster.draw(0, 1), -1);
        CHECK.due("draw(20, 21)", raster.draw(20, 21), -1);
        CHECK.due("what is told of an object that never drew", Check.told(raster, 0, 0),
            "fault 0 at -1, fills 0, edges 0, depth 0, clipped 0, white 0\n-1");
    }

    private static void newPageIsWhite() {
        CHECK.says("on a new page of that size, all 255 at first");
        int[][] sizes = {{20, 20}, {1, 1}, {3, 20}, {20, 3}, {2, 2}, {20, 20}};
        PageRaster raster = new PageRaster();
        for (int[] size : sizes) {
            raster.clear();
            Check.feedAll(raster, "q 5 g 0 0 20 20 re f 0 0 1 1 re W n");
            raster.draw(20, 20);
            CHECK.due("area(5) before", raster.area(5), 400);
            raster.clear();
            CHECK.due("draw(" + size[0] + ", " + size[1] + ")", raster.draw(size[0], size[1]), 0);
            CHECK.due("area(255)", raster.area(255), size[0] * size[1]);
            CHECK.due("counts", Check.counts(raster),
                "fault 0 at -1, fills 0, edges 0, depth 0, clipped " + size[0] * size[1]);
            CHECK.due("last pixel", raster.pixel(size[0] - 1, size[1] - 1), 255);
            CHECK.due("pixel right of it", raster.pixel(size[0], size[1] - 1), -1);
            CHECK.due("pixel above it", raster.pixel(size[0] - 1, size[1]), -1);
        }
    }

    private static void textStays() {
        CHECK.says("(The text stays; ...)");
        PageRaster raster = Check.fed("q 0 0 1 1 re f ");
        CHECK.due("draw", raster.draw(2, 2), 9);
        CHECK.due("length", raster.length(), 15);
        CHECK.due("draw again", raster.draw(2, 2), 9);
        CHECK.due("feed", raster.feed('Q'), 1);
        CHECK.due("draw with more", raster.draw(2, 2), 0);
        CHECK.due("picture", Check.picture(raster, 2, 2), "..\n#.");
        CHECK.due("feed of a fault", raster.feed('x'), 1);
        CHECK.due("draw with a fault", raster.draw(2, 2), 2);
        CHECK.due("draw with the fault again", raster.draw(2, 2), 2);
        CHECK.due("length with the fault", raster.length(), 17);
    }

    private static void pageUpToTheFault() {
        CHECK.says("with a fault the page is as it was drawn up to there");
        CHECK.due("picture up to the first token", Check.picture(Check.drawn("x 0 0 9 9 re f", 2, 2), 2, 2), "..\n..");
        CHECK.due("picture up to between", Check.picture(Check.drawn("0 0 1 1 re f x 1 1 1 1 re f", 2, 2), 2, 2), "..\n#.");
        CHECK.due("picture up to the end", Check.picture(Check.drawn("0 0 1 1 re f 1 1 1 1 re f q", 2, 2), 2, 2), ".#\n#.");
        CHECK.due("picture of a path left open", Check.picture(Check.drawn("0 0 1 1 re f 1 1 1 1 re", 2, 2), 2, 2), "..\n#.");
    }

    private static void faultAndPlace() {
        CHECK.says("The number of the first fault of the latest drawing; 0 if it had none or there was none. Its place; -1");
        PageRaster raster = new PageRaster();
        CHECK.due("fault of none", raster.fault(), 0);
        CHECK.due("faultAt of none", raster.faultAt(), -1);
        raster.draw(1, 1);
        CHECK.due("fault of no text", raster.fault(), 0);
        CHECK.due("faultAt of no text", raster.faultAt(), -1);
        raster.feed('x');
        CHECK.due("fault before the drawing", raster.fault(), 0);
        CHECK.due("draw", raster.draw(1, 1), 2);
        CHECK.due("fault", raster.fault(), 2);
        CHECK.due("faultAt, the first place", raster.faultAt(), 0);
        raster.clear();
        CHECK.due("fault when cleared", raster.fault(), 2);
        CHECK.due("faultAt when cleared", raster.faultAt(), 0);
        CHECK.due("draw of no text", raster.draw(1, 1), 0);
        CHECK.due("fault of a drawing without", raster.fault(), 0);
        CHECK.due("faultAt of a drawing without", raster.faultAt(), -1);
        Check.feedAll(raster, Check.times(" ", 399) + "(");
        CHECK.due("draw of the full text", raster.draw(1, 1), 1);
        CHECK.due("faultAt, the last place", raster.faultAt(), 399);
    }

    private static void pixels() {
        CHECK.says("The value of a pixel; -1 if there is none.");
        int[][] sizes = {{1, 1}, {20, 20}, {1, 20}, {20, 1}, {7, 3}};
        int[] wrong = {-1, -2, -20, 400, 256, Integer.MAX_VALUE, Integer.MIN_VALUE};
        CHECK.due("pixel of a new object", new PageRaster().pixel(0, 0), -1);
        for (int[] size : sizes) {
            PageRaster raster = Check.drawn("7 g 0 0 20 20 re f", size[0], size[1]);
            for (int x : new int[] {0, size[0] - 1}) {
                for (int y : new int[] {0, size[1] - 1}) {
                    CHECK.due("pixel(" + x + ", " + y + ")", raster.pixel(x, y), 7);
                }
                CHECK.due("pixel(" + x + ", " + size[1] + ")", raster.pixel(x, size[1]), -1);
                for (int y : wrong) {
                    CHECK.due("pixel(" + x + ", " + y + ")", raster.pixel(x, y), -1);
                }
            }
            for (int y : new int[] {0, size[1] - 1}) {
                CHECK.due("pixel(" + size[0] + ", " + y + ")", raster.pixel(size[0], y), -1);
                for (int x : wrong) {
                    CHECK.due("pixel(" + x + ", " + y + ")", raster.pixel(x, y), -1);
                }
            }
        }
    }

    private static void columnsAndRows() {
        CHECK.says("Pixel (x, y) is in column x from the left and row y from the bottom");
        for (int x = 0; x < 20; x++) {
            for (int y = 0; y < 20; y++) {
                PageRaster raster = Check.drawn(x + " " + y + " 1 1 re f", 20, 20);
                CHECK.due("pixel(" + x + ", " + y + ")", raster.pixel(x, y), 0);
                CHECK.due("area(0)", raster.area(0), 1);
            }
        }
    }

    private static void areas() {
        CHECK.says("How many pixels of the page have that value.");
        PageRaster raster = Check.drawn("0 g 0 0 1 1 re f 1 g 1 0 2 1 re f 254 g 0 1 3 1 re f", 5, 2);
        int[] values = {0, 1, 254, 255, 2, 253, -1, 256, 257, -255, 510, Integer.MIN_VALUE, Integer.MAX_VALUE};
        int[] want = {1, 2, 3, 4, 0, 0, 0, 0, 0, 0, 0, 0, 0};
        for (int i = 0; i < values.length; i++) {
            CHECK.due("area(" + values[i] + ")", raster.area(values[i]), want[i]);
            CHECK.due("area(" + values[i] + ") of a new object", new PageRaster().area(values[i]), 0);
        }
        // A smaller page counts none of what a greater one showed.
        PageRaster small = Check.drawn("0 0 20 20 re f", 20, 20);
        CHECK.due("area(0) of the greatest page", small.area(0), 400);
        small.draw(1, 1);
        CHECK.due("area(0) of the smallest page", small.area(0), 1);
        CHECK.due("area(255) of the smallest page", small.area(255), 0);
    }

    private static void fills() {
        CHECK.says("How often a path was filled (by f or f*) ..., also where it covered no pixel; 0 if there was none.");
        CHECK.due("fills of a new object", new PageRaster().fills(), 0);
        CHECK.due("fills of n", Check.drawn("0 0 2 2 re n 0 0 2 2 re W n", 3, 3).fills(), 0);
        CHECK.due("fills of f", Check.drawn("0 0 2 2 re f", 3, 3).fills(), 1);
        CHECK.due("fills of f*", Check.drawn("0 0 2 2 re f*", 3, 3).fills(), 1);
        CHECK.due("fills of a point", Check.drawn("0 0 m f", 3, 3).fills(), 1);
        CHECK.due("fills beside the page", Check.drawn("3 0 9 9 re f -9 0 9 9 re f*", 3, 3).fills(), 2);
        CHECK.due("fills beside the clip", Check.drawn("0 0 m W n 0 0 2 2 re f", 3, 3).fills(), 1);
        CHECK.due("fills in white", Check.drawn("255 g 0 0 2 2 re f", 3, 3).fills(), 1);
        CHECK.due("fills before a fault", Check.drawn("0 0 m f 0 0 m f f 0 0 m f", 3, 3).fills(), 2);
        CHECK.due("fills of the fullest text", Check.drawn(Check.times("1 1 m f ", 50), 3, 3).fills(), 50);
        PageRaster raster = Check.drawn("0 0 m f", 3, 3);
        raster.draw(3, 3);
        CHECK.due("fills of the second drawing", raster.fills(), 1);
        raster.clear();
        raster.draw(3, 3);
        CHECK.due("fills of no text", raster.fills(), 0);
    }

    private static void edges() {
        CHECK.says("The greatest number of edges, without those added, that a path ... had when f, f* or n was done; 0");
        CHECK.due("edges of a new object", new PageRaster().edges(), 0);
        CHECK.due("edges of no text", Check.drawn("", 3, 3).edges(), 0);
        CHECK.due("edges of a point", Check.drawn("0 0 m n", 3, 3).edges(), 0);
        for (String finish : new String[] {"f", "f*", "n", "W f", "W* n"}) {
            CHECK.due("edges with " + finish, Check.drawn("0 0 m 1 0 l 1 1 l " + finish, 3, 3).edges(), 2);
            CHECK.due("edges, the first the greatest", Check.drawn("0 0 m h h " + finish + " 0 0 m h " + finish, 3, 3).edges(), 2);
            CHECK.due("edges, the last the greatest", Check.drawn("0 0 m h " + finish + " 0 0 m h h " + finish, 3, 3).edges(), 2);
            CHECK.due("edges of 60", Check.drawn("0 0 m " + Check.times("h ", 60) + finish, 3, 3).edges(), 60);
        }
        CHECK.due("edges of a path left open", Check.drawn("0 0 m h n 0 0 1 1 re", 3, 3).edges(), 1);
        CHECK.due("edges of a path with a fault", Check.drawn("0 0 m h n 0 0 1 1 re 1 f", 3, 3).edges(), 1);
        PageRaster raster = Check.drawn("0 0 1 1 re f", 3, 3);
        raster.clear();
        Check.feedAll(raster, "0 0 m h f");
        raster.draw(3, 3);
        CHECK.due("edges of the second drawing", raster.edges(), 1);
    }

    private static void depth() {
        CHECK.says("The greatest number of states that were saved at a time in the latest drawing; 0 if there was none.");
        CHECK.due("depth of a new object", new PageRaster().depth(), 0);
        CHECK.due("depth of no text", Check.drawn("", 3, 3).depth(), 0);
        for (int count = 1; count <= 6; count++) {
            String down = Check.times("q ", count);
            CHECK.due("depth of " + count + " left", Check.drawn(down, 3, 3).depth(), count);
            CHECK.due("depth of " + count + " taken back", Check.drawn(down + Check.times("Q ", count) + "q Q", 3, 3).depth(), count);
        }
        CHECK.due("depth with the seventh refused", Check.drawn(Check.times("q ", 7), 3, 3).depth(), 6);
        CHECK.due("depth with Q refused", Check.drawn("Q", 3, 3).depth(), 0);
        CHECK.due("depth one at a time", Check.drawn("q Q q Q q Q", 3, 3).depth(), 1);
        CHECK.due("depth before a fault", Check.drawn("q q x q", 3, 3).depth(), 2);
        PageRaster raster = Check.drawn(Check.times("q ", 6), 3, 3);
        raster.clear();
        Check.feedAll(raster, "q Q");
        raster.draw(3, 3);
        CHECK.due("depth of the second drawing", raster.depth(), 1);
    }

    private static void clipped() {
        CHECK.says("How many pixels of the page are in the clip at the end ..., or where its fault was met; 0 if there was none.");
        CHECK.due("clipped of a new object", new PageRaster().clipped(), 0);
        CHECK.due("clipped, smallest page", Check.drawn("", 1, 1).clipped(), 1);
        CHECK.due("clipped, greatest page", Check.drawn("", 20, 20).clipped(), 400);
        CHECK.due("clipped, nothing cut", Check.drawn("0 0 1 1 re f 0 0 1 1 re n q Q", 20, 3).clipped(), 60);
        CHECK.due("clipped to none", Check.drawn("0 0 m W n", 20, 20).clipped(), 0);
        CHECK.due("clipped to one", Check.drawn("19 19 1 1 re W n", 20, 20).clipped(), 1);
        CHECK.due("clipped beside the page", Check.drawn("20 0 9 20 re W n", 20, 20).clipped(), 0);
        CHECK.due("clipped to part of a wider one", Check.drawn("-9 -9 11 12 re W n", 20, 20).clipped(), 6);
        CHECK.due("clipped when taken back", Check.drawn("q 0 0 m W n Q", 3, 3).clipped(), 9);
        CHECK.due("clipped when left saved", Check.drawn("q 0 0 1 1 re W n", 3, 3).clipped(), 1);
        CHECK.due("clipped at a fault", Check.drawn("0 0 1 2 re W n x 0 0 m W n", 3, 3).clipped(), 2);
        CHECK.due("clipped at a fault before the cut", Check.drawn("0 0 1 2 re W x", 3, 3).clipped(), 9);
        CHECK.due("clipped at the end before the cut", Check.drawn("0 0 1 2 re W*", 3, 3).clipped(), 9);
        PageRaster raster = Check.drawn("q q 0 0 m W n", 20, 20);
        raster.clear();
        raster.draw(4, 5);
        CHECK.due("clipped of the second drawing", raster.clipped(), 20);
    }
}
