/** Makes up texts, the same ones for the same seed. */
final class MadeUpTexts {
    private static final String[] NAMES = {"q", "Q", "cm", "g", "m", "l", "h", "re", "c", "W", "W*", "f", "f*", "n", "x", "ff"};
    private static final int[] OPERANDS = {0, 0, 6, 1, 2, 2, 0, 4, 6, 0, 0, 0, 0, 0, 0, 1};
    private static final String[] BLANKS = {" ", " ", " ", " ", "\n", "\t", "\r", "\f", "  ", "%c\n", "%(\r", " % 1 f\n"};

    private long seed;
    private boolean inPath;
    private boolean afterClip;
    private int saved;

    MadeUpTexts(long seed) {
        this.seed = seed;
    }

    /** Mostly follows the rules, so that texts get far, and breaks one now and then. */
    String followingRules() {
        inPath = false;
        afterClip = false;
        saved = 0;
        int carelessness = below(4) == 0 ? 12 : 400;
        int size = below(400) + 1;
        int kind = below(6);
        StringBuilder text = new StringBuilder();
        while (text.length() < size) {
            boolean careless = below(carelessness) == 0;
            int next = careless ? below(NAMES.length) : likelyOperator(kind);
            int count = OPERANDS[next] + (careless && below(3) == 0 ? 1 - below(3) : 0);
            for (int i = 0; i < count; i++) {
                text.append(number(next, careless)).append(BLANKS[below(BLANKS.length)]);
            }
            text.append(NAMES[next]).append(careless && below(8) == 0 ? oddCharacter() : BLANKS[below(BLANKS.length)]);
            follow(NAMES[next]);
        }
        if (below(8) > 0) {
            text.append(inPath ? "n " : "").append("Q ".repeat(Math.max(0, Math.min(saved, 6))));
        }
        return text.length() > 400 ? text.substring(0, 400) : text.toString();
    }

    String anyCharacters() {
        StringBuilder text = new StringBuilder();
        for (int size = below(60); text.length() < size;) {
            text.append(below(3) == 0 ? (char) (1 + below(255)) : "0 1%fqQmnhW*\n".charAt(below(13)));
        }
        return text.toString();
    }

    private String oddCharacter() {
        return String.valueOf("()<>[]{}/%*.\u000b\u0001\u00ff+-1".charAt(below(18)));
    }

    private int likelyOperator(int kind) {
        if (afterClip) {
            return 11 + below(3);
        }
        if (inPath) {
            int[] likely = kind == 0 ? new int[] {6, 6, 6, 6, 6, 7, 8, 5, 4}
                : new int[] {4, 5, 5, 5, 5, 6, 7, 8, 8, 9, 10, 11, 12, 13};
            return likely[below(likely.length)];
        }
        int[] likely = kind == 1 ? new int[] {0, 0, 0, 1, 2, 3, 4, 7} : new int[] {0, 2, 3, 3, 4, 4, 7, 7, 7};
        int next = likely[below(likely.length)];
        if (below(6) == 0) {
            next = 1;
        }
        return next == 1 && saved == 0 || next == 0 && saved >= 6 && below(4) > 0 ? 4 : next;
    }

    private void follow(String name) {
        inPath = inPath || name.equals("m") || name.equals("re");
        if (name.equals("f") || name.equals("f*") || name.equals("n")) {
            inPath = false;
            afterClip = false;
        }
        afterClip = afterClip || name.startsWith("W");
        saved += name.equals("q") ? 1 : name.equals("Q") ? -1 : 0;
    }

    private String number(int operator, boolean careless) {
        if (careless && below(10) == 0) {
            return new String[] {"12345", "+", "-", "1a", "--1", "1.5", "99999"}[below(7)];
        }
        if (NAMES[operator].equals("cm")) {
            return Integer.toString(below(12) == 0 ? below(20000) - 9999 : below(5) - 2);
        }
        if (NAMES[operator].equals("g")) {
            return Integer.toString(below(careless ? 300 : 256));
        }
        int size = below(40) == 0 ? below(20000) - 9999 : below(26) - 3;
        return (size >= 0 && below(15) == 0 ? "+" : "") + size;
    }

    int below(int bound) {
        seed = seed * 6364136223846793005L + 1442695040888963407L;
        return (int) ((seed >>> 33) % bound);
    }
}
