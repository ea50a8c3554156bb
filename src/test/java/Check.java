/** Compares answers with those that are due, and ends a test with exit code 1 if one differs. */
final class Check {
    private int wrong;
    private String sentence = "";

    /** Names the sentence of the document that the answers from here on are about. */
    void says(String newSentence) {
        sentence = newSentence;
    }

    void due(String what, long got, long want) {
        if (got != want) {
            tell(what + " answered " + got + ", due is " + want);
        }
    }

    void due(String what, String got, String want) {
        if (!got.equals(want)) {
            tell(what + " answered\n" + got + "\ndue is\n" + want);
        }
    }

    private void tell(String line) {
        wrong++;
        System.out.println(sentence.isEmpty() ? line : "\"" + sentence + "\": " + line);
    }

    /** Draws the text on a page of 6 by 6 and looks at the fault's number and place. */
    void dueFault(String text, int number, int place) {
        PageRaster raster = fed(text);
        due("draw of <" + text + ">", raster.draw(6, 6), number);
        due("fault of <" + text + ">", raster.fault(), number);
        due("faultAt of <" + text + ">", raster.faultAt(), place);
    }

    void dueNoFault(String text) {
        dueFault(text, 0, -1);
    }

    /** The fault is that of the last operator, which stands at the end of the text. */
    void dueFaultOfLast(String before, String operator, int number) {
        dueFault(before + operator, number, before.length());
    }

    /** Draws a text without a fault and looks at all pixels: '.' white, '#' 0, else the grey's digit; top row first. */
    void duePicture(String text, String... rows) {
        PageRaster raster = fed(text);
        due("draw of <" + text + ">", raster.draw(rows[0].length(), rows.length), 0);
        due("picture of <" + text + ">", picture(raster, rows[0].length(), rows.length), String.join("\n", rows));
    }

    void end() {
        System.out.println(wrong == 0 ? "all answers are as due" : wrong + " answers are not as due");
        if (wrong != 0) {
            System.exit(1);
        }
    }

    static PageRaster fed(String text) {
        PageRaster raster = new PageRaster();
        feedAll(raster, text);
        return raster;
    }

    static void feedAll(PageRaster raster, String text) {
        for (int at = 0; at < text.length(); at += 4) {
            raster.feed(packed(text, at));
        }
    }

    static int packed(String text, int at) {
        int w = 0;
        for (int i = 0; i < 4 && at + i < text.length(); i++) {
            w |= text.charAt(at + i) << 8 * i;
        }
        return w;
    }

    static PageRaster drawn(String text, int width, int height) {
        PageRaster raster = fed(text);
        raster.draw(width, height);
        return raster;
    }

    static String picture(PageRaster raster, int width, int height) {
        StringBuilder rows = new StringBuilder();
        for (int y = height - 1; y >= 0; y--) {
            for (int x = 0; x < width; x++) {
                int value = raster.pixel(x, y);
                rows.append(value == 255 ? "." : value == 0 ? "#" : Integer.toString(value));
            }
            rows.append(y > 0 ? "\n" : "");
        }
        return rows.toString();
    }

    /** All that is told of the latest drawing but single pixels, in one line. */
    static String counts(PageRaster raster) {
        return "fault " + raster.fault() + " at " + raster.faultAt() + ", fills " + raster.fills() + ", edges "
            + raster.edges() + ", depth " + raster.depth() + ", clipped " + raster.clipped();
    }

    /** The counts and all pixels; one more row and column shows where the page ends. */
    static String told(PageRaster raster, int width, int height) {
        return counts(raster) + ", white " + raster.area(255) + "\n" + picture(raster, width + 1, height + 1);
    }

    static String times(String part, int count) {
        return part.repeat(count);
    }
}
