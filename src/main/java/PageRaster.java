import java.util.Arrays;

/** Draws a page description on a small grid of pixels. */
public final class PageRaster {
    private static final int MAX_TEXT = 400;
    private static final int MAX_SIDE = 20;
    private static final int MAX_SAVED = 6;
    private static final int MAX_EDGES = 60;
    private static final int MAX_OPERANDS = 6;
    private static final int MAX_COORDINATE = 32767;
    private static final int MAX_MATRIX_NUMBER = 1000000;
    private static final int WHITE = 255;
    private static final int NONE = -1;

    private static final int NO_FAULT = 0;
    private static final int BAD_CHARACTERS = 1;
    private static final int UNKNOWN_OPERATOR = 2;
    private static final int WRONG_OPERANDS = 3;
    private static final int OUT_OF_RANGE = 4;
    private static final int NO_PATH = 5;
    private static final int OUT_OF_PLACE = 6;
    private static final int NOTHING_SAVED = 7;
    private static final int TOO_MANY_SAVED = 8;
    private static final int STILL_SAVED = 9;
    private static final int TOO_MANY_EDGES = 10;
    private static final int UNFINISHED_PATH = 11;

    // An operator is known by its first code and 256 times its second one.
    private static final int SAVE = 'q';
    private static final int RESTORE = 'Q';
    private static final int CHANGE_MATRIX = 'c' + 256 * 'm';
    private static final int SET_GREY = 'g';
    private static final int MOVE = 'm';
    private static final int LINE = 'l';
    private static final int CLOSE = 'h';
    private static final int RECTANGLE = 'r' + 256 * 'e';
    private static final int CURVE = 'c';
    private static final int CLIP_NON_ZERO = 'W';
    private static final int CLIP_EVEN_ODD = 'W' + 256 * '*';
    private static final int FILL_NON_ZERO = 'f';
    private static final int FILL_EVEN_ODD = 'f' + 256 * '*';
    private static final int END_PATH = 'n';
    private static final int NO_NAME = 0;

    private static final int NO_RULE = 0;
    private static final int NON_ZERO = 1;
    private static final int EVEN_ODD = 2;

    private final Text text;
    private final Drawing latest;

    public PageRaster() {
        text = new Text();
        latest = new Drawing();
    }

    public int feed(int w) {
        return text.append(w);
    }

    public int length() {
        return text.size;
    }

    public void clear() {
        text.size = 0;
    }

    public int draw(int width, int height) {
        if (width < 1 || width > MAX_SIDE || height < 1 || height > MAX_SIDE) {
            return NONE;
        }
        latest.start(width, height);
        latest.run(text);
        return latest.faultNumber;
    }

    public int fault() {
        return latest.faultNumber;
    }

    public int faultAt() {
        return latest.faultPlace;
    }

    public int pixel(int x, int y) {
        return latest.page.valueAt(x, y);
    }

    public int area(int value) {
        return latest.page.countOf(value);
    }

    public int fills() {
        return latest.fillCount;
    }

    public int edges() {
        return latest.mostEdges;
    }

    public int depth() {
        return latest.mostSaved;
    }

    public int clipped() {
        return latest.state().clipSize();
    }

    /** The description: its characters, and where its tokens end. */
    private static final class Text {
        final int[] codes = new int[MAX_TEXT];
        int size;

        int append(int w) {
            int count = 0;
            while (count < 4 && codeIn(w, count) != 0) {
                count++;
            }
            if (size + count > MAX_TEXT) {
                return NONE;
            }
            for (int i = 0; i < count; i++) {
                codes[size + i] = codeIn(w, i);
            }
            size += count;
            return count;
        }

        private static int codeIn(int w, int index) {
            return w >> 8 * index & 255;
        }

        /** Where the token or comment that begins at start ends; any other character stands alone. */
        int endOfPiece(int start) {
            int end = start + 1;
            if (codes[start] == '%') {
                while (end < size && codes[end] != 10 && codes[end] != 13) {
                    end++;
                }
            } else if (isTokenPart(codes[start])) {
                while (end < size && isTokenPart(codes[end])) {
                    end++;
                }
            }
            return end;
        }

        static boolean isTokenPart(int code) {
            return code != '%' && !isBlank(code) && !isBarred(code);
        }

        private static boolean isBlank(int code) {
            return code == 9 || code == 10 || code == 12 || code == 13 || code == 32;
        }

        static boolean isBarred(int code) {
            switch (code) {
                case '(':
                case ')':
                case '<':
                case '>':
                case '[':
                case ']':
                case '{':
                case '}':
                case '/':
                    return true;
                default:
                    return false;
            }
        }

        static boolean beginsNumber(int code) {
            return isDigit(code) || isSign(code);
        }

        private static boolean isDigit(int code) {
            return code >= '0' && code <= '9';
        }

        private static boolean isSign(int code) {
            return code == '+' || code == '-';
        }

        boolean isNumber(int start, int end) {
            int first = isSign(codes[start]) ? start + 1 : start;
            if (end - first < 1 || end - first > 4) {
                return false;
            }
            for (int i = first; i < end; i++) {
                if (!isDigit(codes[i])) {
                    return false;
                }
            }
            return true;
        }

        int numberIn(int start, int end) {
            int number = 0;
            for (int i = isSign(codes[start]) ? start + 1 : start; i < end; i++) {
                number = 10 * number + codes[i] - '0';
            }
            return codes[start] == '-' ? -number : number;
        }

        int operatorIn(int start, int end) {
            if (end - start == 1) {
                return codes[start];
            }
            if (end - start == 2) {
                return codes[start] + 256 * codes[start + 1];
            }
            return NO_NAME;
        }
    }

    /** The pixels, row by row from the bottom. */
    private static final class Page {
        final int[] values = new int[MAX_SIDE * MAX_SIDE];
        int width;
        int height;

        void start(int newWidth, int newHeight) {
            width = newWidth;
            height = newHeight;
            Arrays.fill(values, WHITE);
        }

        int valueAt(int x, int y) {
            if (x < 0 || x >= width || y < 0 || y >= height) {
                return NONE;
            }
            return values[y * MAX_SIDE + x];
        }

        int countOf(int value) {
            int count = 0;
            for (int y = 0; y < height; y++) {
                for (int x = 0; x < width; x++) {
                    if (values[y * MAX_SIDE + x] == value) {
                        count++;
                    }
                }
            }
            return count;
        }

        void paintRow(int y, int columns, int grey) {
            for (int x = 0; x < width; x++) {
                if ((columns >> x & 1) != 0) {
                    values[y * MAX_SIDE + x] = grey;
                }
            }
        }
    }

    /** What q saves. The clip has an int for each row, whose bit x stands for column x. */
    private static final class State {
        final int[] matrix = new int[6];
        final int[] clip = new int[MAX_SIDE];
        int grey;

        void start(int width, int height) {
            Arrays.fill(matrix, 0);
            matrix[0] = 1;
            matrix[3] = 1;
            grey = 0;
            for (int y = 0; y < MAX_SIDE; y++) {
                clip[y] = y < height ? (1 << width) - 1 : 0;
            }
        }

        void copyFrom(State other) {
            System.arraycopy(other.matrix, 0, matrix, 0, 6);
            System.arraycopy(other.clip, 0, clip, 0, MAX_SIDE);
            grey = other.grey;
        }

        // Longs, because a matrix number times a coordinate does not fit an int.
        long pageX(long x, long y) {
            return matrix[0] * x + matrix[2] * y + matrix[4];
        }

        long pageY(long x, long y) {
            return matrix[1] * x + matrix[3] * y + matrix[5];
        }

        int clipSize() {
            int count = 0;
            for (int y = 0; y < MAX_SIDE; y++) {
                count += Integer.bitCount(clip[y]);
            }
            return count;
        }
    }

    /** The path that is being built, in points of the page. */
    private static final class Path {
        // Each subpath that is open has an edge of its own, so those added at most double the edges.
        final int[] fromX = new int[2 * MAX_EDGES];
        final int[] fromY = new int[2 * MAX_EDGES];
        final int[] toX = new int[2 * MAX_EDGES];
        final int[] toY = new int[2 * MAX_EDGES];
        final int[] windings = new int[MAX_SIDE];
        int edgesHeld;
        int edgesMade;
        boolean exists;
        int beginX;
        int beginY;
        int currentX;
        int currentY;

        void drop() {
            edgesHeld = 0;
            edgesMade = 0;
            exists = false;
            currentX = beginX;
            currentY = beginY;
        }

        void begin(int x, int y) {
            endSubpath();
            exists = true;
            beginX = x;
            beginY = y;
            currentX = x;
            currentY = y;
        }

        void edgeTo(int x, int y) {
            hold(x, y);
            edgesMade++;
            currentX = x;
            currentY = y;
        }

        void endSubpath() {
            if (currentX != beginX || currentY != beginY) {
                hold(beginX, beginY);
            }
        }

        private void hold(int x, int y) {
            if (edgesHeld < 2 * MAX_EDGES) {
                fromX[edgesHeld] = currentX;
                fromY[edgesHeld] = currentY;
                toX[edgesHeld] = x;
                toY[edgesHeld] = y;
                edgesHeld++;
            }
        }

        /** The columns of row y that are inside, as bits. */
        int insideOfRow(int y, int width, int rule) {
            Arrays.fill(windings, 0);
            for (int i = 0; i < edgesHeld; i++) {
                if (fromY[i] <= y && y < toY[i]) {
                    addCrossings(i, y, width, 1);
                } else if (toY[i] <= y && y < fromY[i]) {
                    addCrossings(i, y, width, -1);
                }
            }
            // Upward less downward is odd just where the number of crossings is odd.
            int mask = rule == EVEN_ODD ? 1 : -1;
            int columns = 0;
            for (int x = 0; x < width; x++) {
                if ((windings[x] & mask) != 0) {
                    columns |= 1 << x;
                }
            }
            return columns;
        }

        /** Both sides of the comparison are doubled and times the edge's height, so that nothing is rounded. */
        private void addCrossings(int edge, int y, int width, int direction) {
            long rise = (long) toY[edge] - fromY[edge];
            long shift = (long) toX[edge] - fromX[edge];
            long edgeX = direction * (2 * fromX[edge] * rise + shift * (2 * (y - fromY[edge]) + 1));
            long height = direction * rise;
            for (int x = 0; x < width && (2 * x + 1) * height < edgeX; x++) {
                windings[x] += direction;
            }
        }
    }

    /** Carries out a text, and keeps what is told of it. */
    private static final class Drawing {
        final Page page = new Page();
        final Path path = new Path();
        // The state in force stands behind those saved.
        final State[] states = new State[MAX_SAVED + 1];
        final int[] operands = new int[MAX_OPERANDS];
        final int[] pointX = new int[4];
        final int[] pointY = new int[4];
        final int[] newMatrix = new int[6];
        int operandCount;
        int saved;
        int clipRule;
        int faultNumber;
        int faultPlace;
        int fillCount;
        int mostEdges;
        int mostSaved;

        Drawing() {
            for (int i = 0; i <= MAX_SAVED; i++) {
                states[i] = new State();
            }
            faultPlace = NONE;
        }

        State state() {
            return states[saved];
        }

        void start(int width, int height) {
            page.start(width, height);
            path.drop();
            operandCount = 0;
            saved = 0;
            clipRule = NO_RULE;
            faultNumber = NO_FAULT;
            faultPlace = NONE;
            fillCount = 0;
            mostEdges = 0;
            mostSaved = 0;
            state().start(width, height);
        }

        void run(Text text) {
            int at = 0;
            while (at < text.size && faultNumber == NO_FAULT) {
                int code = text.codes[at];
                int end = text.endOfPiece(at);
                if (Text.isBarred(code)) {
                    tell(BAD_CHARACTERS, at);
                } else if (Text.beginsNumber(code)) {
                    takeNumber(text, at, end);
                } else if (Text.isTokenPart(code)) {
                    takeOperator(text.operatorIn(at, end), at);
                }
                at = Math.max(end, at + 1);
            }
            if (faultNumber == NO_FAULT) {
                tell(faultAtEnd(), text.size);
            }
        }

        private void tell(int number, int place) {
            if (number != NO_FAULT) {
                faultNumber = number;
                faultPlace = place;
            }
        }

        private int faultAtEnd() {
            if (operandCount > 0) {
                return WRONG_OPERANDS;
            }
            if (path.exists) {
                return UNFINISHED_PATH;
            }
            return saved > 0 ? STILL_SAVED : NO_FAULT;
        }

        private void takeNumber(Text text, int start, int end) {
            if (!text.isNumber(start, end)) {
                tell(BAD_CHARACTERS, start);
                return;
            }
            // Any operator refuses more operands than are kept, so that their count is enough.
            if (operandCount < MAX_OPERANDS) {
                operands[operandCount] = text.numberIn(start, end);
            }
            operandCount++;
        }

        private void takeOperator(int operator, int place) {
            int number = faultOf(operator);
            tell(number, place);
            if (number == NO_FAULT) {
                changeState(operator);
                buildPath(operator);
                usePath(operator);
                operandCount = 0;
            }
        }

        /** The order of the tests is the order in which the faults count. */
        private int faultOf(int operator) {
            int wanted = operandsOf(operator);
            if (wanted == NONE) {
                return UNKNOWN_OPERATOR;
            }
            if (isOutOfPlace(operator)) {
                return OUT_OF_PLACE;
            }
            if (operandCount != wanted) {
                return WRONG_OPERANDS;
            }
            if (!path.exists && needsPath(operator)) {
                return NO_PATH;
            }
            if (operator == RESTORE && saved == 0) {
                return NOTHING_SAVED;
            }
            if (operator == SAVE && saved == MAX_SAVED) {
                return TOO_MANY_SAVED;
            }
            if (!prepare(operator)) {
                return OUT_OF_RANGE;
            }
            return path.edgesMade + edgesOf(operator) > MAX_EDGES ? TOO_MANY_EDGES : NO_FAULT;
        }

        private static int operandsOf(int operator) {
            switch (operator) {
                case SAVE:
                case RESTORE:
                case CLOSE:
                case CLIP_NON_ZERO:
                case CLIP_EVEN_ODD:
                case FILL_NON_ZERO:
                case FILL_EVEN_ODD:
                case END_PATH:
                    return 0;
                case SET_GREY:
                    return 1;
                case MOVE:
                case LINE:
                    return 2;
                case RECTANGLE:
                    return 4;
                case CHANGE_MATRIX:
                case CURVE:
                    return 6;
                default:
                    return NONE;
            }
        }

        private boolean isOutOfPlace(int operator) {
            switch (operator) {
                case FILL_NON_ZERO:
                case FILL_EVEN_ODD:
                case END_PATH:
                    return false;
                case SAVE:
                case RESTORE:
                case CHANGE_MATRIX:
                case SET_GREY:
                    return path.exists;
                default:
                    return clipRule != NO_RULE;
            }
        }

        private static boolean needsPath(int operator) {
            switch (operator) {
                case LINE:
                case CLOSE:
                case CURVE:
                case CLIP_NON_ZERO:
                case CLIP_EVEN_ODD:
                case FILL_NON_ZERO:
                case FILL_EVEN_ODD:
                case END_PATH:
                    return true;
                default:
                    return false;
            }
        }

        private static int edgesOf(int operator) {
            switch (operator) {
                case LINE:
                case CLOSE:
                    return 1;
                case RECTANGLE:
                case CURVE:
                    return 4;
                default:
                    return 0;
            }
        }

        /** Works out the operator's points or matrix; false if one of its numbers is out of range. */
        private boolean prepare(int operator) {
            switch (operator) {
                case SET_GREY:
                    return operands[0] >= 0 && operands[0] <= 255;
                case CHANGE_MATRIX:
                    return prepareMatrix();
                case MOVE:
                case LINE:
                    return preparePoint(0, operands[0], operands[1]);
                case CURVE:
                    return preparePoint(0, operands[0], operands[1])
                        && preparePoint(1, operands[2], operands[3])
                        && preparePoint(2, operands[4], operands[5]);
                case RECTANGLE:
                    int x = operands[0] + operands[2];
                    int y = operands[1] + operands[3];
                    return preparePoint(0, operands[0], operands[1])
                        && preparePoint(1, x, operands[1])
                        && preparePoint(2, x, y)
                        && preparePoint(3, operands[0], y);
                default:
                    return true;
            }
        }

        private boolean preparePoint(int index, int x, int y) {
            long pageX = state().pageX(x, y);
            long pageY = state().pageY(x, y);
            pointX[index] = (int) pageX;
            pointY[index] = (int) pageY;
            return isWithin(pageX, MAX_COORDINATE) && isWithin(pageY, MAX_COORDINATE);
        }

        /** The first four operands are two directions, which the old matrix turns but does not shift. */
        private boolean prepareMatrix() {
            State old = state();
            boolean fits = true;
            for (int i = 0; i < 6; i += 2) {
                long x = old.pageX(operands[i], operands[i + 1]) - (i < 4 ? old.matrix[4] : 0);
                long y = old.pageY(operands[i], operands[i + 1]) - (i < 4 ? old.matrix[5] : 0);
                newMatrix[i] = (int) x;
                newMatrix[i + 1] = (int) y;
                fits = fits && isWithin(x, MAX_MATRIX_NUMBER) && isWithin(y, MAX_MATRIX_NUMBER);
            }
            return fits;
        }

        private static boolean isWithin(long number, int limit) {
            return number >= -limit && number <= limit;
        }

        private void changeState(int operator) {
            switch (operator) {
                case SAVE:
                    states[saved + 1].copyFrom(states[saved]);
                    saved++;
                    mostSaved = Math.max(mostSaved, saved);
                    break;
                case RESTORE:
                    saved--;
                    break;
                case CHANGE_MATRIX:
                    System.arraycopy(newMatrix, 0, state().matrix, 0, 6);
                    break;
                case SET_GREY:
                    state().grey = operands[0];
                    break;
                default:
                    break;
            }
        }

        private void buildPath(int operator) {
            switch (operator) {
                case MOVE:
                    path.begin(pointX[0], pointY[0]);
                    break;
                case LINE:
                    path.edgeTo(pointX[0], pointY[0]);
                    break;
                case CLOSE:
                    path.edgeTo(path.beginX, path.beginY);
                    break;
                case RECTANGLE:
                    path.begin(pointX[0], pointY[0]);
                    path.edgeTo(pointX[1], pointY[1]);
                    path.edgeTo(pointX[2], pointY[2]);
                    path.edgeTo(pointX[3], pointY[3]);
                    path.edgeTo(path.beginX, path.beginY);
                    break;
                case CURVE:
                    addCurve(path.currentX, path.currentY);
                    break;
                default:
                    break;
            }
        }

        private void usePath(int operator) {
            switch (operator) {
                case CLIP_NON_ZERO:
                    clipRule = NON_ZERO;
                    break;
                case CLIP_EVEN_ODD:
                    clipRule = EVEN_ODD;
                    break;
                case FILL_NON_ZERO:
                    finishPath(NON_ZERO);
                    break;
                case FILL_EVEN_ODD:
                    finishPath(EVEN_ODD);
                    break;
                case END_PATH:
                    finishPath(NO_RULE);
                    break;
                default:
                    break;
            }
        }

        private void addCurve(int startX, int startY) {
            for (int k = 1; k <= 4; k++) {
                path.edgeTo(curveAt(k, startX, pointX), curveAt(k, startY, pointY));
            }
        }

        private static int curveAt(int k, int start, int[] points) {
            int rest = 4 - k;
            int sum = start * rest * rest * rest + 3 * points[0] * k * rest * rest
                + 3 * points[1] * k * k * rest + points[2] * k * k * k;
            return Math.floorDiv(sum + 32, 64);
        }

        private void finishPath(int fillRule) {
            path.endSubpath();
            State state = state();
            for (int y = 0; y < page.height; y++) {
                if (fillRule != NO_RULE) {
                    page.paintRow(y, path.insideOfRow(y, page.width, fillRule) & state.clip[y], state.grey);
                }
                if (clipRule != NO_RULE) {
                    state.clip[y] &= path.insideOfRow(y, page.width, clipRule);
                }
            }
            fillCount += fillRule != NO_RULE ? 1 : 0;
            mostEdges = Math.max(mostEdges, path.edgesMade);
            clipRule = NO_RULE;
            path.drop();
        }
    }
}
