/** The boundaries that the document names for the text, and in promises 1 to 4. */
public final class TextBoundaryTest {
    private static final String AS_NEW = "fault 0 at -1, fills 0, edges 0, depth 0, clipped 0, white 0\n-1";
    private static final Check CHECK = new Check();

    public static void main(String[] args) {
        newObject();
        atMost400Characters();
        codesFrom1To255();
        theFourCodes();
        upToBeforeTheFirstZero();
        refusedIfThereWouldBeMore();
        noneIsAppendedIfRefused();
        feedTellsNothingOfTheDrawing();
        length();
        clearedTextIsEmpty();
        pageStaysWhenCleared();
        CHECK.end();
    }

    private static String blanks(int count) {
        return Check.times(" ", count);
    }

    private static void newObject() {
        CHECK.says("No text, no page, nothing drawn.");
        PageRaster raster = new PageRaster();
        CHECK.due("length", raster.length(), 0);
        CHECK.due("what is told", Check.told(raster, 0, 0), AS_NEW);
        for (int value = -1; value <= 256; value++) {
            CHECK.due("area(" + value + ")", raster.area(value), 0);
        }
        // The first text begins at place 0.
        raster.feed('x');
        CHECK.due("length with the first character", raster.length(), 1);
        CHECK.due("draw", raster.draw(1, 1), 2);
        CHECK.due("faultAt", raster.faultAt(), 0);
    }

    private static void atMost400Characters() {
        CHECK.says("The TEXT has at most 400 characters");
        PageRaster raster = new PageRaster();
        for (int size = 0; size < 399; size++) {
            CHECK.due("feed of one at " + size, raster.feed(' '), 1);
        }
        CHECK.due("feed of the 400th", raster.feed('x'), 1);
        CHECK.due("feed of the 401st", raster.feed('x'), -1);
        CHECK.due("length", raster.length(), 400);
        CHECK.due("draw", raster.draw(1, 1), 2);
        CHECK.due("faultAt of the 400th", raster.faultAt(), 399);
    }

    private static void codesFrom1To255() {
        CHECK.says("with codes 1 .. 255");
        CHECK.due("feed(0)", new PageRaster().feed(0), 0);
        CHECK.due("feed(256)", new PageRaster().feed(256), 0);
        for (int code = 1; code <= 255; code++) {
            PageRaster raster = new PageRaster();
            CHECK.due("feed(" + code + ")", raster.feed(code), 1);
            CHECK.due("feed of four times " + code, raster.feed(0x01010101 * code), 4);
            CHECK.due("length", raster.length(), 5);
        }
    }

    private static void theFourCodes() {
        CHECK.says("the codes w & 255, w >> 8 & 255, w >> 16 & 255, w >> 24 & 255");
        // Only in this order is the fault that of the last character; its code has the sign's bit.
        PageRaster raster = new PageRaster();
        CHECK.due("feed", raster.feed('q' | '\n' << 8 | 'Q' << 16 | ' ' << 24), 4);
        CHECK.due("feed with the highest bit", raster.feed('%' | '%' << 8 | '\r' << 16 | 0xff << 24), 4);
        CHECK.due("draw", raster.draw(1, 1), 2);
        CHECK.due("faultAt", raster.faultAt(), 7);
    }

    private static void upToBeforeTheFirstZero() {
        CHECK.says("up to before the first that is 0");
        for (int zeros = 0; zeros < 16; zeros++) {
            int w = 0;
            for (int i = 0; i < 4; i++) {
                w |= (zeros >> i & 1) != 0 ? 0 : 'x' << 8 * i;
            }
            int want = zeros == 0 ? 4 : Integer.numberOfTrailingZeros(zeros);
            PageRaster raster = new PageRaster();
            CHECK.due("feed(" + Integer.toHexString(w) + ")", raster.feed(w), want);
            CHECK.due("length after it", raster.length(), want);
        }
        PageRaster raster = new PageRaster();
        raster.feed('q' | 'x' << 16);
        CHECK.due("draw without what is behind the 0", raster.draw(1, 1), 9);
        CHECK.due("faultAt", raster.faultAt(), 1);
    }

    private static void refusedIfThereWouldBeMore() {
        CHECK.says("how many were appended; -1 ... if there would be more than 400");
        int[] words = {0, 0x20, 0x2020, 0x202020, 0x20202020};
        for (int size = 395; size <= 400; size++) {
            for (int count = 0; count <= 4; count++) {
                PageRaster raster = Check.fed(blanks(size));
                boolean fits = size + count <= 400;
                CHECK.due("feed of " + count + " at " + size, raster.feed(words[count]), fits ? count : -1);
                CHECK.due("length then", raster.length(), fits ? size + count : size);
            }
        }
        // What stands behind the first 0 does not count.
        CHECK.due("feed of one and a 0 at 399", Check.fed(blanks(399)).feed(0x20200020), 1);
        CHECK.due("feed of 0 and three at 400", Check.fed(blanks(400)).feed(0x20202000), 0);
    }

    private static void noneIsAppendedIfRefused() {
        CHECK.says("and none is");
        PageRaster raster = Check.fed(blanks(398));
        CHECK.due("feed of xxx", raster.feed('x' | 'x' << 8 | 'x' << 16), -1);
        CHECK.due("length", raster.length(), 398);
        CHECK.due("draw without x", raster.draw(2, 2), 0);
        CHECK.due("feed of q", raster.feed('q'), 1);
        CHECK.due("feed of xx", raster.feed('x' | 'x' << 8), -1);
        CHECK.due("length with q", raster.length(), 399);
        CHECK.due("draw with q alone", raster.draw(2, 2), 9);
        CHECK.due("feed of the last blank", raster.feed(' '), 1);
        CHECK.due("feed of x", raster.feed('x'), -1);
        CHECK.due("draw of the full text", raster.draw(2, 2), 9);
        CHECK.due("faultAt", raster.faultAt(), 400);
    }

    private static void feedTellsNothingOfTheDrawing() {
        CHECK.says("Appends to the text");
        PageRaster raster = Check.drawn("q 0 0 1 2 re W f 5 g 0 1 3 1 re f x" + blanks(364), 3, 2);
        String before = Check.told(raster, 3, 2);
        CHECK.due("length", raster.length(), 399);
        CHECK.due("feed that is refused", raster.feed('x' | 'x' << 8), -1);
        CHECK.due("what is told after a refused feed", Check.told(raster, 3, 2), before);
        CHECK.due("feed", raster.feed('x'), 1);
        CHECK.due("what is told after a feed", Check.told(raster, 3, 2), before);
    }

    private static void length() {
        CHECK.says("The number of characters of the text.");
        PageRaster raster = new PageRaster();
        for (int size = 0; size <= 400; size += 4) {
            CHECK.due("length", raster.length(), size);
            CHECK.due("feed at " + size, raster.feed(0x20202020), size < 400 ? 4 : -1);
        }
        CHECK.due("length after the refused feed", raster.length(), 400);
        raster.draw(3, 3);
        CHECK.due("length after a drawing", raster.length(), 400);
        raster.draw(0, 3);
        CHECK.due("length after a refused drawing", raster.length(), 400);
        raster.clear();
        CHECK.due("length when cleared", raster.length(), 0);
        raster.feed('x');
        raster.draw(3, 3);
        CHECK.due("length after a faulty drawing", raster.length(), 1);
    }

    private static void clearedTextIsEmpty() {
        CHECK.says("The text is empty");
        PageRaster raster = new PageRaster();
        raster.clear();
        CHECK.due("length of a new text, cleared", raster.length(), 0);
        CHECK.due("what is told of a new object, cleared", Check.told(raster, 0, 0), AS_NEW);
        Check.feedAll(raster, "q" + Check.times("x", 399));
        CHECK.due("feed to the full text", raster.feed('x'), -1);
        raster.clear();
        raster.clear();
        CHECK.due("length", raster.length(), 0);
        CHECK.due("draw of the empty text", raster.draw(2, 2), 0);
        CHECK.due("feed", raster.feed('q'), 1);
        CHECK.due("draw of what was fed alone", raster.draw(2, 2), 9);
        CHECK.due("faultAt", raster.faultAt(), 1);
        Check.feedAll(raster, blanks(399));
        CHECK.due("length when full again", raster.length(), 400);
        CHECK.due("feed when full again", raster.feed(' '), -1);
    }

    private static void pageStaysWhenCleared() {
        CHECK.says("the page and what was told of the latest drawing stay");
        String[] texts = {"", "5 g 0 0 2 2 re W f", "q q Q 1 1 m 2 2 l 3 3 l f* 1 0 1 1 re W n 7 g 0 0 3 3 re f 12345"};
        for (String text : texts) {
            PageRaster raster = Check.drawn(text, 4, 3);
            String before = Check.told(raster, 4, 3);
            raster.clear();
            CHECK.due("what is told of <" + text + ">, cleared", Check.told(raster, 4, 3), before);
            CHECK.due("draw that is refused", raster.draw(4, 0), -1);
            CHECK.due("what is told then", Check.told(raster, 4, 3), before);
        }
    }
}
