/** Promises 10 to 12: fills, edges, depth. */
public final class CountTest {
    private static final Check CHECK = new Check();

    public static void main(String[] args) {
        fills();
        edges();
        depth();
        CHECK.end();
    }

    private static void dueFills(String text, int want) {
        CHECK.due("fills of <" + text + ">", Check.drawn(text, 3, 3).fills(), want);
    }

    private static void fills() {
        dueFills("", 0);
        dueFills("0 0 1 1 re f", 1);
        dueFills("0 0 1 1 re f*", 1);
        dueFills("0 0 1 1 re n", 0);
        dueFills("0 0 1 1 re W n", 0);
        dueFills("0 0 1 1 re W f", 1);
        dueFills("0 0 m f", 1);
        dueFills("50 50 1 1 re f", 1);
        dueFills("0 0 m W n 0 0 1 1 re f", 1);
        dueFills("255 g 0 0 1 1 re f 0 0 1 1 re f* 0 0 1 1 re n 0 0 m f", 3);
        dueFills("0 0 1 1 re", 0);
        dueFills("0 0 1 1 re 5 f", 0);
        dueFills("0 0 m f f", 1);
        dueFills("q 0 0 m f Q q 0 0 m f*", 2);
        dueFills(Check.times("0 0 m f ", 50), 50);
    }

    private static void dueEdges(String text, int want) {
        CHECK.due("edges of <" + text + ">", Check.drawn(text, 3, 3).edges(), want);
    }

    private static void edges() {
        dueEdges("", 0);
        dueEdges("0 0 m n", 0);
        dueEdges("0 0 m 1 1 l n", 1);
        dueEdges("0 0 m 1 1 l 2 0 l f", 2);
        dueEdges("0 0 m 1 1 l 2 0 l h f*", 3);
        dueEdges("0 0 m h h f", 2);
        dueEdges("0 0 m 0 0 l f", 1);
        dueEdges("0 0 m 0 1 1 1 1 0 c f", 4);
        dueEdges("0 0 1 1 re f", 4);
        dueEdges("0 0 1 1 re 0 0 m 1 1 l 1 2 l 0 1 m 2 2 l f", 7);
        dueEdges("0 0 1 1 re n 0 0 m h f", 4);
        dueEdges("0 0 m h f 0 0 1 1 re W n", 4);
        dueEdges("0 0 m h f 0 0 1 1 re", 1);
        dueEdges("0 0 m h f 0 0 1 1 re 1 n", 1);
        dueEdges("0 0 m h f 0 0 1 1 re x", 1);
        dueEdges("0 0 m " + Check.times("h ", 60) + "n", 60);
        dueEdges("0 0 m " + Check.times("h ", 61) + "n", 0);
    }

    private static void dueDepth(String text, int want) {
        CHECK.due("depth of <" + text + ">", Check.drawn(text, 3, 3).depth(), want);
    }

    private static void depth() {
        dueDepth("", 0);
        dueDepth("0 0 1 1 re f", 0);
        dueDepth("q Q", 1);
        dueDepth("q Q q Q q Q", 1);
        dueDepth("q q Q q q Q Q Q", 3);
        dueDepth("q", 1);
        dueDepth("Q", 0);
        dueDepth("1 q", 0);
        dueDepth("q q x q", 2);
        dueDepth("q q q q q q Q Q Q Q Q Q", 6);
        dueDepth("q q q q q q q", 6);
    }
}
