/** Runs of 512 calls in any order and with any arguments on one object, compared call by call with text and model. */
public final class RunTest {
    private static final int RUNS = 600;
    private static final int CALLS = 512;
    private static final int[] FAR = {Integer.MIN_VALUE, Integer.MAX_VALUE, -1, 20, 21, 255, 256, -32768, 65536, 1 << 20};

    private static final Check CHECK = new Check();
    private static final MadeUpTexts MADE_UP = new MadeUpTexts(1115);
    // How often a feed was taken and refused, then a draw.
    private static final int[] SEEN = new int[4];

    private final PageRaster raster = new PageRaster();
    private final StringBuilder text = new StringBuilder();
    // What is still to be fed of a made-up text.
    private String ahead = "";
    private Model latest;

    public static void main(String[] args) {
        for (int i = 0; i < RUNS; i++) {
            CHECK.says("run " + i);
            new RunTest().run();
        }
        for (int i = 0; i < SEEN.length; i++) {
            CHECK.due("calls seen of kind " + i + " are enough", SEEN[i] > 1000 ? 1 : 0, 1);
        }
        CHECK.end();
    }

    private void run() {
        for (int call = 0; call < CALLS; call++) {
            int kind = MADE_UP.below(100);
            if (kind < 60) {
                feed(MADE_UP.below(60) == 0 ? anyWord() : nextWord());
            } else if (kind < 61) {
                clear();
            } else if (kind < 68) {
                draw(side(), side());
            } else {
                ask();
            }
        }
    }

    private void feed(int w) {
        StringBuilder codes = new StringBuilder();
        for (long rest = w & 0xFFFFFFFFL; rest % 256 != 0; rest /= 256) {
            codes.append((char) (rest % 256));
        }
        boolean taken = text.length() + codes.length() <= 400;
        CHECK.due("feed(" + w + ")", raster.feed(w), taken ? codes.length() : -1);
        text.append(taken ? codes : "");
        SEEN[taken ? 0 : 1]++;
    }

    private void clear() {
        raster.clear();
        text.setLength(0);
        ahead = "";
    }

    private void draw(int width, int height) {
        boolean taken = 1 <= width && width <= 20 && 1 <= height && height <= 20;
        if (taken) {
            latest = new Model(text.toString(), width, height);
        }
        CHECK.due("draw(" + width + ", " + height + ") of <" + text + ">", raster.draw(width, height), taken ? latest.fault : -1);
        SEEN[taken ? 2 : 3]++;
    }

    private void ask() {
        boolean none = latest == null;
        switch (MADE_UP.below(9)) {
            case 0 -> CHECK.due("fault()", raster.fault(), none ? 0 : latest.fault);
            case 1 -> CHECK.due("faultAt()", raster.faultAt(), none ? -1 : latest.faultAt);
            case 2 -> CHECK.due("fills()", raster.fills(), none ? 0 : latest.fills);
            case 3 -> CHECK.due("edges()", raster.edges(), none ? 0 : latest.edges);
            case 4 -> CHECK.due("depth()", raster.depth(), none ? 0 : latest.depth);
            case 5 -> CHECK.due("clipped()", raster.clipped(), none ? 0 : latest.clipped());
            case 6 -> CHECK.due("length()", raster.length(), text.length());
            case 7 -> askPixel(coordinate(), coordinate());
            default -> askArea(value());
        }
    }

    private void askPixel(int x, int y) {
        boolean stands = latest != null && x >= 0 && x < latest.width && y >= 0 && y < latest.height;
        CHECK.due("pixel(" + x + ", " + y + ")", raster.pixel(x, y), stands ? latest.pixels[x][y] : -1);
    }

    private void askArea(int value) {
        int count = 0;
        for (int x = 0; latest != null && x < latest.width; x++) {
            for (int y = 0; y < latest.height; y++) {
                count += latest.pixels[x][y] == value ? 1 : 0;
            }
        }
        CHECK.due("area(" + value + ")", raster.area(value), count);
    }

    /** One to four characters of a made-up text; those behind a first 0 must not be taken. */
    private int nextWord() {
        if (ahead.isEmpty()) {
            ahead = MADE_UP.followingRules();
        }
        int count = Math.min(ahead.length(), MADE_UP.below(4) == 0 ? 1 + MADE_UP.below(4) : 4);
        int w = Check.packed(ahead.substring(0, count), 0);
        ahead = ahead.substring(count);
        return count == 1 && MADE_UP.below(2) == 0 ? w | anyWord() << 16 : w;
    }

    private static int anyWord() {
        return MADE_UP.below(Integer.MAX_VALUE) << 1 ^ MADE_UP.below(Integer.MAX_VALUE);
    }

    private static int side() {
        return MADE_UP.below(8) == 0 ? far() : 1 + MADE_UP.below(20);
    }

    private static int coordinate() {
        return MADE_UP.below(12) == 0 ? far() : MADE_UP.below(22) - 1;
    }

    private int value() {
        if (latest != null && MADE_UP.below(4) > 0) {
            return latest.pixels[MADE_UP.below(latest.width)][MADE_UP.below(latest.height)];
        }
        return MADE_UP.below(4) == 0 ? far() : MADE_UP.below(256);
    }

    private static int far() {
        return FAR[MADE_UP.below(FAR.length)];
    }
}
