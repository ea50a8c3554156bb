import java.math.BigInteger;
import java.util.ArrayDeque;
import java.util.ArrayList;
import java.util.Arrays;
import java.util.Deque;
import java.util.List;
import java.util.Map;
import java.util.regex.Matcher;
import java.util.regex.Pattern;

/**
 * The document's terms a second time, as literally and as differently from the program as could be: texts are split by a
 * pattern, numbers have no bound, points are kept by subpath, and every pixel counts the edges that cross for it.
 */
final class Model {
    private static final Pattern PIECE = Pattern.compile(
        "(?<blank>[\\t\\n\\f\\r ])|(?<comment>%[^\\n\\r]*)|(?<barred>[()<>\\[\\]{}/])|(?<token>[^\\t\\n\\f\\r %()<>\\[\\]{}/]+)");
    private static final Map<String, Integer> OPERANDS = Map.ofEntries(
        Map.entry("q", 0), Map.entry("Q", 0), Map.entry("cm", 6), Map.entry("g", 1), Map.entry("m", 2), Map.entry("l", 2),
        Map.entry("h", 0), Map.entry("re", 4), Map.entry("c", 6), Map.entry("W", 0), Map.entry("W*", 0), Map.entry("f", 0),
        Map.entry("f*", 0), Map.entry("n", 0));

    private record Point(BigInteger x, BigInteger y) { }

    private record Saved(BigInteger[] matrix, int grey, boolean[][] clip) { }

    final int[][] pixels;
    final int width;
    final int height;
    int fault;
    int faultAt = -1;
    int fills;
    int edges;
    int depth;

    private final Deque<Saved> saved = new ArrayDeque<>();
    private final List<BigInteger> operands = new ArrayList<>();
    private BigInteger[] matrix = numbers(1, 0, 0, 1, 0, 0);
    private int grey;
    private boolean[][] clip;
    private List<List<Point>> path;
    private int made;
    private String clipRule = "";

    Model(String text, int width, int height) {
        this.width = width;
        this.height = height;
        pixels = new int[width][height];
        clip = new boolean[width][height];
        for (int x = 0; x < width; x++) {
            Arrays.fill(pixels[x], 255);
            Arrays.fill(clip[x], true);
        }
        draw(text);
    }

    int clipped() {
        int count = 0;
        for (boolean[] column : clip) {
            for (boolean held : column) {
                count += held ? 1 : 0;
            }
        }
        return count;
    }

    private void draw(String text) {
        Matcher pieces = PIECE.matcher(text);
        while (fault == 0 && pieces.find()) {
            int found = 0;
            if (pieces.group("barred") != null) {
                found = 1;
            } else if (pieces.group("token") != null) {
                found = token(pieces.group("token"));
            }
            if (found != 0) {
                fault = found;
                faultAt = pieces.start();
            }
        }
        if (fault == 0) {
            fault = !operands.isEmpty() ? 3 : path != null ? 11 : !saved.isEmpty() ? 9 : 0;
            faultAt = fault == 0 ? -1 : text.length();
        }
    }

    private int token(String token) {
        if ("0123456789+-".indexOf(token.charAt(0)) >= 0) {
            if (!token.matches("[+-]?[0-9]{1,4}")) {
                return 1;
            }
            operands.add(new BigInteger(token));
            return 0;
        }
        if (!OPERANDS.containsKey(token)) {
            return 2;
        }
        if (path != null && List.of("q", "Q", "cm", "g").contains(token)) {
            return 6;
        }
        if (!clipRule.isEmpty() && !List.of("f", "f*", "n").contains(token)) {
            return 6;
        }
        if (operands.size() != OPERANDS.get(token)) {
            return 3;
        }
        int found = operator(token);
        operands.clear();
        return found;
    }

    private int operator(String name) {
        if (path == null && List.of("l", "h", "c", "W", "W*", "f", "f*", "n").contains(name)) {
            return 5;
        }
        switch (name) {
            case "q":
                if (saved.size() == 6) {
                    return 8;
                }
                saved.push(new Saved(matrix, grey, clip));
                depth = Math.max(depth, saved.size());
                return 0;
            case "Q":
                if (saved.isEmpty()) {
                    return 7;
                }
                Saved back = saved.pop();
                matrix = back.matrix();
                grey = back.grey();
                clip = back.clip();
                return 0;
            case "cm":
                return concatenate();
            case "g":
                if (!within(operands.get(0), 0, 255)) {
                    return 4;
                }
                grey = operands.get(0).intValue();
                return 0;
            case "W":
            case "W*":
                clipRule = name;
                return 0;
            case "f":
            case "f*":
            case "n":
                finish(name);
                return 0;
            default:
                return build(name);
        }
    }

    private int concatenate() {
        // Rows of a 3 by 3 matrix, the text's point standing before it as (x, y, 1).
        BigInteger[][] first = rows(operands.toArray(new BigInteger[0]));
        BigInteger[][] second = rows(matrix);
        BigInteger[] product = new BigInteger[6];
        for (int row = 0; row < 3; row++) {
            for (int column = 0; column < 2; column++) {
                BigInteger sum = BigInteger.ZERO;
                for (int i = 0; i < 3; i++) {
                    sum = sum.add(first[row][i].multiply(second[i][column]));
                }
                product[2 * row + column] = sum;
            }
        }
        for (BigInteger number : product) {
            if (!within(number, -1000000, 1000000)) {
                return 4;
            }
        }
        matrix = product;
        return 0;
    }

    private static BigInteger[][] rows(BigInteger[] six) {
        return new BigInteger[][] {
            {six[0], six[1], BigInteger.ZERO}, {six[2], six[3], BigInteger.ZERO}, {six[4], six[5], BigInteger.ONE}};
    }

    private int build(String name) {
        List<Point> points = new ArrayList<>();
        if (name.equals("re")) {
            BigInteger x = operands.get(0);
            BigInteger y = operands.get(1);
            BigInteger right = x.add(operands.get(2));
            BigInteger top = y.add(operands.get(3));
            points.addAll(List.of(placed(x, y), placed(right, y), placed(right, top), placed(x, top)));
        } else {
            for (int i = 0; i < operands.size(); i += 2) {
                points.add(placed(operands.get(i), operands.get(i + 1)));
            }
        }
        for (Point point : points) {
            if (!within(point.x(), -32767, 32767) || !within(point.y(), -32767, 32767)) {
                return 4;
            }
        }
        int more = name.equals("re") || name.equals("c") ? 4 : name.equals("m") ? 0 : 1;
        if (made + more > 60) {
            return 10;
        }
        made += more;
        extend(name, points);
        return 0;
    }

    private void extend(String name, List<Point> points) {
        if (name.equals("m") || name.equals("re")) {
            if (path == null) {
                path = new ArrayList<>();
            }
            List<Point> subpath = new ArrayList<>(points);
            if (name.equals("re")) {
                subpath.add(points.get(0));
            }
            path.add(subpath);
            return;
        }
        List<Point> subpath = path.get(path.size() - 1);
        if (name.equals("l")) {
            subpath.add(points.get(0));
        } else if (name.equals("h")) {
            subpath.add(subpath.get(0));
        } else {
            Point start = subpath.get(subpath.size() - 1);
            for (int k = 1; k <= 4; k++) {
                subpath.add(new Point(
                    curve(k, start.x(), points.get(0).x(), points.get(1).x(), points.get(2).x()),
                    curve(k, start.y(), points.get(0).y(), points.get(1).y(), points.get(2).y())));
            }
        }
    }

    private static BigInteger curve(int k, BigInteger p0, BigInteger p1, BigInteger p2, BigInteger p3) {
        BigInteger sum = p0.multiply(number((4 - k) * (4 - k) * (4 - k)))
            .add(p1.multiply(number(3 * k * (4 - k) * (4 - k))))
            .add(p2.multiply(number(3 * k * k * (4 - k))))
            .add(p3.multiply(number(k * k * k)))
            .add(number(32));
        return sum.subtract(sum.mod(number(64))).divide(number(64));
    }

    private Point placed(BigInteger x, BigInteger y) {
        return new Point(
            matrix[0].multiply(x).add(matrix[2].multiply(y)).add(matrix[4]),
            matrix[1].multiply(x).add(matrix[3].multiply(y)).add(matrix[5]));
    }

    private void finish(String name) {
        boolean[][] cut = new boolean[width][height];
        for (int x = 0; x < width; x++) {
            for (int y = 0; y < height; y++) {
                if (!name.equals("n") && clip[x][y] && isInside(x, y, name.equals("f*"))) {
                    pixels[x][y] = grey;
                }
                cut[x][y] = clip[x][y] && (clipRule.isEmpty() || isInside(x, y, clipRule.equals("W*")));
            }
        }
        clip = cut;
        fills += name.equals("n") ? 0 : 1;
        edges = Math.max(edges, made);
        made = 0;
        clipRule = "";
        path = null;
    }

    private boolean isInside(int x, int y, boolean evenOdd) {
        int upward = 0;
        int downward = 0;
        for (List<Point> subpath : path) {
            for (int i = 0; i < subpath.size(); i++) {
                Point from = subpath.get(i);
                Point to = subpath.get((i + 1) % subpath.size());
                if (crosses(from, to, x, y)) {
                    if (from.y().compareTo(to.y()) < 0) {
                        upward++;
                    } else {
                        downward++;
                    }
                }
            }
        }
        return evenOdd ? (upward + downward) % 2 == 1 : upward != downward;
    }

    private static boolean crosses(Point from, Point to, int x, int y) {
        Point low = from.y().compareTo(to.y()) <= 0 ? from : to;
        Point high = low == from ? to : from;
        if (low.y().compareTo(number(y)) > 0 || number(y).compareTo(high.y()) >= 0) {
            return false;
        }
        // The way from the low point to the sample point turns left of the edge just if the edge lies right of it.
        BigInteger two = number(2);
        BigInteger sampleX = number(2 * x + 1).subtract(low.x().multiply(two));
        BigInteger sampleY = number(2 * y + 1).subtract(low.y().multiply(two));
        BigInteger turn = high.x().subtract(low.x()).multiply(sampleY).subtract(high.y().subtract(low.y()).multiply(sampleX));
        return turn.signum() > 0;
    }

    private static boolean within(BigInteger number, int least, int greatest) {
        return number.compareTo(number(least)) >= 0 && number.compareTo(number(greatest)) <= 0;
    }

    private static BigInteger number(int n) {
        return BigInteger.valueOf(n);
    }

    private static BigInteger[] numbers(int... list) {
        BigInteger[] made = new BigInteger[list.length];
        for (int i = 0; i < list.length; i++) {
            made[i] = number(list[i]);
        }
        return made;
    }
}
