/** Draws many made-up texts, each by the program and by the model, and compares all that is told. */
public final class ModelTest {
    private static final int TEXTS = 30000;
    private static final Check CHECK = new Check();
    private static final int[] FAULTS_SEEN = new int[12];
    private static final MadeUpTexts MADE_UP = new MadeUpTexts(20261115);

    public static void main(String[] args) {
        for (int i = 0; i < TEXTS; i++) {
            PageRaster raster = new PageRaster();
            int longestSide = 20;
            if (i % 2 == 1) {
                // The drawing before leaves fewer of an object's 512 calls for the pixels.
                longestSide = 15;
                Check.feedAll(raster, MADE_UP.followingRules());
                raster.draw(1 + MADE_UP.below(20), 1 + MADE_UP.below(20));
                raster.clear();
            }
            String text = i % 50 == 0 ? MADE_UP.anyCharacters() : MADE_UP.followingRules();
            compare(raster, text, 1 + MADE_UP.below(longestSide), 1 + MADE_UP.below(longestSide));
        }
        for (int number = 0; number < 12; number++) {
            CHECK.due("texts seen with fault " + number + " are enough", FAULTS_SEEN[number] > 20 ? 1 : 0, 1);
        }
        System.out.println("faults seen " + java.util.Arrays.toString(FAULTS_SEEN));
        CHECK.end();
    }

    private static void compare(PageRaster raster, String text, int width, int height) {
        Check.feedAll(raster, text);
        Model model = new Model(text, width, height);
        FAULTS_SEEN[model.fault]++;
        String on = " of <" + text + "> on " + width + " by " + height;
        CHECK.due("length" + on, raster.length(), text.length());
        CHECK.due("draw" + on, raster.draw(width, height), model.fault);
        CHECK.due("fault" + on, raster.fault(), model.fault);
        CHECK.due("faultAt" + on, raster.faultAt(), model.faultAt);
        CHECK.due("fills" + on, raster.fills(), model.fills);
        CHECK.due("edges" + on, raster.edges(), model.edges);
        CHECK.due("depth" + on, raster.depth(), model.depth);
        CHECK.due("clipped" + on, raster.clipped(), model.clipped());
        int[] areas = new int[256];
        int wrongPixels = 0;
        for (int x = 0; x < width; x++) {
            for (int y = 0; y < height; y++) {
                areas[model.pixels[x][y]]++;
                wrongPixels += raster.pixel(x, y) == model.pixels[x][y] ? 0 : 1;
            }
        }
        CHECK.due("wrong pixels" + on, wrongPixels, 0);
        int value = model.pixels[MADE_UP.below(width)][MADE_UP.below(height)];
        CHECK.due("area(" + value + ")" + on, raster.area(value), areas[value]);
    }
}
