/** Draws many made-up texts, each by the program and by the model, and compares all that is told. */
public final class ModelTest {
    private static final int TEXTS = 30000;
    private static final String[] NAMES = {"q", "Q", "cm", "g", "m", "l", "h", "re", "c", "W", "W*", "f", "f*", "n", "x", "ff"};
    private static final int[] OPERANDS = {0, 0, 6, 1, 2, 2, 0, 4, 6, 0, 0, 0, 0, 0, 0, 1};
    private static final String[] BLANKS = {" ", " ", " ", " ", "\n", "\t", "\r", "\f", "  ", "%c\n", "%(\r", " % 1 f\n"};

    private static final Check CHECK = new Check();
    private static final int[] FAULTS_SEEN = new int[12];
    private static long seed = 20261115;

    private static boolean inPath;
    private static boolean afterClip;
    private static int saved;

    public static void main(String[] args) {
        for (int i = 0; i < TEXTS; i++) {
            PageRaster raster = new PageRaster();
            int longestSide = 20;
            if (i % 2 == 1) {
                // The drawing before leaves fewer of an object's 512 calls for the pixels.
                longestSide = 15;
                Check.feedAll(raster, madeUpText());
                raster.draw(1 + below(20), 1 + below(20));
                raster.clear();
            }
            compare(raster, i % 50 == 0 ? anyCharacters() : madeUpText(), 1 + below(longestSide), 1 + below(longestSide));
        }
        for (int number = 0; number < 12; number++) {
            CHECK.due("texts seen with fault " + number + " are enough", FAULTS_SEEN[number] > 20 ? 1 : 0, 1);
        }
        System.out.println("faults seen " + java.util.Arrays.toString(FAULTS_SEEN));
        CHECK.end();
    }

    private static void compare(PageRaster raster, String text, int width, int height) {
        Check.feedAll(raster, text);
        Model model = new Model(text, width, height);
        FAULTS_SEEN[model.fault]++;
        String on = " of <" + text + "> on " + width + " by " + height;
        CHECK.due("length" + on, raster.length(), text.length());
        CHECK.due("draw" + on, raster.draw(width, height), model.fault);
        CHECK.due("fault" + on, raster.fault(), model.fault);
        CHECK.due("faultAt" + on, raster.faultAt(), model.faultAt);
        CHECK.due("fills" + on, raster.fills(), model.fills);
        CHECK.due("edges" + on, raster.edges(), model.edges);
        CHECK.due("depth" + on, raster.depth(), model.depth);
        CHECK.due("clipped" + on, raster.clipped(), model.clipped());
        int[] areas = new int[256];
        int wrongPixels = 0;
        for (int x = 0; x < width; x++) {
            for (int y = 0; y < height; y++) {
                areas[model.pixels[x][y]]++;
                wrongPixels += raster.pixel(x, y) == model.pixels[x][y] ? 0 : 1;
            }
        }
        CHECK.due("wrong pixels" + on, wrongPixels, 0);
        int value = model.pixels[below(width)][below(height)];
        CHECK.due("area(" + value + ")" + on, raster.area(value), areas[value]);
    }

    /** Mostly follows the rules, so that texts get far, and breaks one now and then. */
    private static String madeUpText() {
        inPath = false;
        afterClip = false;
        saved = 0;
        int carelessness = below(4) == 0 ? 12 : 400;
        int size = below(400) + 1;
        int kind = below(6);
        StringBuilder text = new StringBuilder();
        while (text.length() < size) {
            boolean careless = below(carelessness) == 0;
            int next = careless ? below(NAMES.length) : likelyOperator(kind);
            int count = OPERANDS[next] + (careless && below(3) == 0 ? 1 - below(3) : 0);
            for (int i = 0; i < count; i++) {
                text.append(number(next, careless)).append(BLANKS[below(BLANKS.length)]);
            }
            text.append(NAMES[next]).append(careless && below(8) == 0 ? oddCharacter() : BLANKS[below(BLANKS.length)]);
            follow(NAMES[next]);
        }
        if (below(8) > 0) {
            text.append(inPath ? "n " : "").append("Q ".repeat(Math.max(0, Math.min(saved, 6))));
        }
        return text.length() > 400 ? text.substring(0, 400) : text.toString();
    }

    private static String anyCharacters() {
        StringBuilder text = new StringBuilder();
        for (int size = below(60); text.length() < size;) {
            text.append(below(3) == 0 ? (char) (1 + below(255)) : "0 1%fqQmnhW*\n".charAt(below(13)));
        }
        return text.toString();
    }

    private static String oddCharacter() {
        return String.valueOf("()<>[]{}/%*.\u000b\u0001\u00ff+-1".charAt(below(18)));
    }

    private static int likelyOperator(int kind) {
        if (afterClip) {
            return 11 + below(3);
        }
        if (inPath) {
            int[] likely = kind == 0 ? new int[] {6, 6, 6, 6, 6, 7, 8, 5, 4}
                : new int[] {4, 5, 5, 5, 5, 6, 7, 8, 8, 9, 10, 11, 12, 13};
            return likely[below(likely.length)];
        }
        int[] likely = kind == 1 ? new int[] {0, 0, 0, 1, 2, 3, 4, 7} : new int[] {0, 2, 3, 3, 4, 4, 7, 7, 7};
        int next = likely[below(likely.length)];
        if (below(6) == 0) {
            next = 1;
        }
        return next == 1 && saved == 0 || next == 0 && saved >= 6 && below(4) > 0 ? 4 : next;
    }

    private static void follow(String name) {
        inPath = inPath || name.equals("m") || name.equals("re");
        if (name.equals("f") || name.equals("f*") || name.equals("n")) {
            inPath = false;
            afterClip = false;
        }
        afterClip = afterClip || name.startsWith("W");
        saved += name.equals("q") ? 1 : name.equals("Q") ? -1 : 0;
    }

    private static String number(int operator, boolean careless) {
        if (careless && below(10) == 0) {
            return new String[] {"12345", "+", "-", "1a", "--1", "1.5", "99999"}[below(7)];
        }
        if (NAMES[operator].equals("cm")) {
            return Integer.toString(below(12) == 0 ? below(20000) - 9999 : below(5) - 2);
        }
        if (NAMES[operator].equals("g")) {
            return Integer.toString(below(careless ? 300 : 256));
        }
        int size = below(40) == 0 ? below(20000) - 9999 : below(26) - 3;
        return (size >= 0 && below(15) == 0 ? "+" : "") + size;
    }

    private static int below(int bound) {
        seed = seed * 6364136223846793005L + 1442695040888963407L;
        return (int) ((seed >>> 33) % bound);
    }
}
