/** The boundaries that the document names for edges, curves, the inside, and the clip. */
public final class PathBoundaryTest {
    private static final Check CHECK = new Check();

    public static void main(String[] args) {
        curvesAreRounded();
        curvesAtTheEndsOfTheRange();
        curvesStartOnThePage();
        sixtyEdges();
        sixtyEdgesInThePath();
        subpathsThatEndWhereTheyBegan();
        emptySubpaths();
        rowsOfAnEdge();
        flatEdges();
        rightOfTheSamplePoint();
        asManyUpwardAsDownward();
        oddCrossings();
        lastFilledPathShows();
        cutClips();
        clipIsCutOnce();
        CHECK.end();
    }

    /** On a page of 20 by 20, both texts draw the same. */
    private static void dueSame(String text, String other) {
        PageRaster got = Check.fed(text);
        PageRaster want = Check.fed(other);
        CHECK.due("draw of <" + text + ">", got.draw(20, 20), 0);
        CHECK.due("draw of <" + other + ">", want.draw(20, 20), 0);
        CHECK.due("picture of <" + text + ">", Check.picture(got, 20, 20), Check.picture(want, 20, 20));
    }

    /** The same with rows for columns. */
    private static void dueSameBothWays(String text, String other) {
        dueSame(text, other);
        dueSame("0 1 1 0 0 0 cm " + text, "0 1 1 0 0 0 cm " + other);
    }

    private static void curvesAreRounded() {
        CHECK.says("each coordinate the floor of (p0 (4-k)^3 + 3 p1 k (4-k)^2 + 3 p2 k^2 (4-k) + p3 k^3 + 32) / 64");
        // The first point beside the start is 8 and 31/64, then 8 and 32/64.
        dueSameBothWays("8 0 m 8 4 11 8 12 12 c 0 12 l f", "8 0 m 8 3 l 10 6 l 11 9 l 12 12 l 0 12 l f");
        dueSameBothWays("8 0 m 8 4 11 8 13 12 c 0 12 l f", "8 0 m 9 3 l 10 6 l 11 9 l 13 12 l 0 12 l f");
        // The second one is 8 and 24/64, then 8 and 32/64.
        dueSameBothWays("8 0 m 8 4 8 8 11 12 c 0 12 l f", "8 0 m 8 3 l 8 6 l 9 9 l 11 12 l 0 12 l f");
        dueSameBothWays("8 0 m 8 4 8 8 12 12 c 0 12 l f", "8 0 m 8 3 l 9 6 l 10 9 l 12 12 l 0 12 l f");
        // Below 0 the floor of (-40 + 32) / 64 is -1 and that of (-173 + 32) / 64 is -3.
        dueSameBothWays("16 0 m 0 4 -7 8 0 12 c 16 12 l f", "16 0 m 6 3 l -1 6 l -3 9 l 0 12 l 16 12 l f");
        // (-32 + 32) / 64 is 0, and the floor of (-172 + 32) / 64 is -3.
        dueSameBothWays("17 0 m 0 4 -7 8 0 12 c 17 12 l f", "17 0 m 6 3 l 0 6 l -3 9 l 0 12 l 17 12 l f");
    }

    private static void curvesAtTheEndsOfTheRange() {
        CHECK.says("a curve from the current point P0 by P1 and P2 to P3");
        // 4681 times 7 is 32767; with x like y, all points of the curve are on the diagonal.
        String seven = "7 0 0 7 0 0 cm ";
        String back = "-4681 4681 l f";
        CHECK.duePicture(seven + "4681 -4681 m 4681 -4681 4681 4681 4681 4681 c -4681 4681 l -4681 -4681 l f", "###", "###");
        CHECK.duePicture(seven + "-4681 -4681 m -4681 -4681 4681 4681 4681 4681 c " + back, "##..", "#...", "....");
        CHECK.duePicture(seven + "4681 4681 m 4681 4681 -4681 -4681 -4681 -4681 c " + back, "##..", "#...", "....");
    }

    private static void curvesStartOnThePage() {
        CHECK.says("all on the page");
        dueSame("4 0 0 4 0 0 cm 0 0 m 0 1 1 2 2 4 c 0 4 l f", "0 0 m 0 4 4 8 8 16 c 0 16 l f");
        // What is left of an earlier curve is in none behind it.
        dueSame("1 1 m 9 9 5 3 2 7 c n 0 0 m 0 4 4 8 8 16 c 0 16 l f", "0 0 m 0 4 4 8 8 16 c 0 16 l f");
    }

    private static void sixtyEdges() {
        CHECK.says("10: an operator would make more than 60 edges in the path");
        String[] operators = {"0 0 l", "h", "0 0 1 1 2 2 c", "0 0 1 1 re", "0 0 m"};
        int[] edges = {1, 1, 4, 4, 0};
        for (int i = 0; i < operators.length; i++) {
            for (int before = 54; before <= 60; before++) {
                String text = "1 1 m " + Check.times("h ", before) + operators[i];
                int name = text.lastIndexOf(' ') + 1;
                if (before + edges[i] <= 60) {
                    CHECK.dueNoFault(text + " n");
                    CHECK.due("edges of <" + text + ">", Check.drawn(text + " n", 2, 2).edges(), before + edges[i]);
                } else {
                    CHECK.dueFault(text + " n", 10, name);
                    CHECK.due("edges of <" + text + ">", Check.drawn(text + " n", 2, 2).edges(), 0);
                }
            }
        }
        CHECK.dueNoFault(Check.times("0 0 1 1 re ", 15) + "W f");
        CHECK.dueFault(Check.times("0 0 1 1 re ", 16), 10, 173);
        CHECK.dueNoFault("0 0 m " + Check.times("1 1 2 2 3 3 c ", 15) + "W* f*");
        CHECK.dueFault("0 0 m " + Check.times("1 1 2 2 3 3 c ", 16), 10, 228);
    }

    private static void sixtyEdgesInThePath() {
        CHECK.says("in the path. (Counted are those of l, h, c and re.)");
        String full = "1 1 m " + Check.times("h ", 60);
        CHECK.dueNoFault(full + "n " + full + "f");
        CHECK.dueNoFault(full + "f* " + full + "n");
        CHECK.dueFault(full + "n " + full + "h", 10, 254);
        // A new subpath is no new path.
        CHECK.dueFault("1 1 m " + Check.times("h ", 30) + "2 2 m " + Check.times("h ", 31), 10, 132);
        // Those added are not counted, and yet are there: the last of the 26 bounds the picture on the right.
        String open = "0 0 m " + Check.times("h ", 32) + Check.times("1 0 m 1 2 l ", 25);
        CHECK.duePicture(open + "3 2 m 0 2 l 0 0 l 3 0 l f", "###.", "###.");
        CHECK.due("edges of 60 and 26", Check.drawn(open + "3 2 m 0 2 l 0 0 l 3 0 l f", 4, 2).edges(), 60);
        CHECK.dueFaultOfLast(open + "3 2 m 0 2 l 0 0 l 3 0 l ", "h", 10);
        CHECK.dueNoFault("0 0 m " + Check.times("h ", 59) + "1 1 l f");
        // A path that a fault broke off is not counted in the next drawing.
        PageRaster raster = Check.drawn(full + "x", 2, 2);
        raster.clear();
        Check.feedAll(raster, full + "n");
        CHECK.due("draw after a broken path", raster.draw(2, 2), 0);
        CHECK.due("edges after a broken path", raster.edges(), 60);
    }

    private static void subpathsThatEndWhereTheyBegan() {
        CHECK.says("for each subpath that does not end where it began, one from its end to its beginning is added");
        // Ends off its beginning in x alone, in y alone, and not at all.
        CHECK.duePicture("3 2 m 3 0 l 0 0 l 0 2 l f", "###.", "###.");
        CHECK.duePicture("3 2 m 0 2 l 0 0 l 3 0 l f", "###.", "###.");
        CHECK.duePicture("3 2 m 0 2 l 0 0 l 3 0 l 3 2 l f*", "###.", "###.");
        CHECK.duePicture("3 2 m 0 2 l 0 0 l 3 0 l h f*", "###.", "###.");
        CHECK.duePicture("3 2 m 0 2 l 0 0 l 3 0 l h h f*", "###.", "###.");
        // The same for a subpath that another one follows, by m and by re.
        CHECK.duePicture("3 2 m 0 2 l 0 0 l 3 0 l 9 9 m f", "###.", "###.");
        CHECK.duePicture("3 2 m 0 2 l 0 0 l 3 0 l 4 0 1 1 re f", "###...", "###.#.");
        CHECK.duePicture("3 2 m 0 2 l 0 0 l 3 0 l h 4 0 1 1 re f*", "###...", "###.#.");
        // Of one that goes on behind h, the beginning is still where m began it.
        CHECK.duePicture("3 2 m 0 2 l h 0 2 l 0 0 l 3 0 l f*", "###.", "###.");
        CHECK.duePicture("2 1 -1 1 re 2 2 l 0 2 l 0 0 l 2 0 l f*", "#..", "##.");
        CHECK.due("edges without those added", Check.drawn("3 2 m 0 2 l 0 0 l 3 0 l f", 4, 2).edges(), 3);
    }

    private static void emptySubpaths() {
        CHECK.says("x y m begins a subpath at the point");
        CHECK.duePicture("0 0 m f", "..", "..");
        CHECK.duePicture("0 0 m 1 1 m 0 1 m f*", "..", "..");
        CHECK.duePicture("0 0 m h f", "..", "..");
        CHECK.duePicture("1 1 0 0 re f", "..", "..");
        CHECK.duePicture("0 0 0 2 re f", "..", "..");
        CHECK.duePicture("0 0 2 0 re f", "..", "..");
        CHECK.duePicture("5 5 m 0 0 1 1 re 5 5 m f", "..", "#.");
    }

    private static void rowsOfAnEdge() {
        CHECK.says("An edge ... CROSSES for pixel (x, y) if min(y0, y1) <= y < max(y0, y1)");
        for (int low = -1; low <= 5; low++) {
            for (int high = low; high <= 5; high++) {
                String[] texts = {
                    "2 " + low + " m 2 " + high + " l 0 " + high + " l 0 " + low + " l f",
                    "2 " + high + " m 2 " + low + " l 0 " + low + " l 0 " + high + " l f"};
                for (String text : texts) {
                    PageRaster raster = Check.drawn(text, 3, 5);
                    for (int y = 0; y < 5; y++) {
                        int want = low <= y && y < high ? 0 : 255;
                        CHECK.due("pixel(1, " + y + ") of <" + text + ">", raster.pixel(1, y), want);
                        CHECK.due("pixel(2, " + y + ") of <" + text + ">", raster.pixel(2, y), 255);
                    }
                }
            }
        }
    }

    private static void flatEdges() {
        CHECK.says("min(y0, y1) <= y < max(y0, y1)");
        // Flat edges alone enclose nothing and cross nothing, whichever way they go.
        CHECK.duePicture("0 1 m 3 1 l h f", "...", "...");
        CHECK.duePicture("3 0 m 0 0 l 3 0 l 0 0 l f*", "...", "...");
        CHECK.duePicture("0 0 2 2 re 9 0 l 9 1 m 0 1 l f", "##.......", "##.......");
        CHECK.duePicture("0 0 2 2 re 9 0 l 9 1 m 0 1 l f*", "##.......", "##.......");
    }

    private static void rightOfTheSamplePoint() {
        CHECK.says("its point at height y + 1/2 lies right of x + 1/2 (not on it)");
        // At height 1/2 the slanting edge is just right of 1/2, on it, just left of it.
        String[] ends = {"9999 9998", "9998 9998", "9998 9999"};
        int[] want = {0, 255, 255};
        for (int i = 0; i < ends.length; i++) {
            PageRaster upward = Check.drawn("0 0 m " + ends[i] + " l -9 9998 l f", 1, 1);
            CHECK.due("pixel left of the upward edge to " + ends[i], upward.pixel(0, 0), want[i]);
            PageRaster downward = Check.drawn("-9 9998 m " + ends[i] + " l 0 0 l f*", 1, 1);
            CHECK.due("pixel left of the downward edge from " + ends[i], downward.pixel(0, 0), want[i]);
        }
        // The other way slanting, towards the left: by (1, 0) and 1/2 at height 1/2.
        String[] lefts = {"-9997 9999", "-9997 9998", "-9998 9998"};
        int[] wantLeft = {0, 255, 255};
        for (int i = 0; i < lefts.length; i++) {
            PageRaster upward = Check.drawn("1 0 m " + lefts[i] + " l -9999 0 l f", 1, 1);
            CHECK.due("pixel left of the edge to " + lefts[i], upward.pixel(0, 0), wantLeft[i]);
        }
        // Straight up, the last edge that is not right of pixel 1, and the first that is.
        CHECK.duePicture("1 0 m 1 1 l 0 1 l 0 0 l f", "#..");
        CHECK.duePicture("2 0 m 2 1 l 0 1 l 0 0 l f", "##.");
        // On two edges at once is right of neither.
        CHECK.duePicture("0 0 m 1 1 l -9 1 l f", ".");
        CHECK.duePicture("1 0 m 0 1 l 9 1 l 9 0 l f", "#");
    }

    private static void asManyUpwardAsDownward() {
        CHECK.says("By the rule non-zero the pixel is inside if not as many edges cross upward as downward");
        String up = "1 0 m 1 1 l 0 1 l 0 0 l ";
        String down = "1 1 m 1 0 l 0 0 l 0 1 l ";
        for (int ups = 0; ups <= 4; ups++) {
            for (int downs = 0; downs <= 4; downs++) {
                String text = "5 5 m " + Check.times(up, ups) + Check.times(down, downs) + "f";
                CHECK.due("pixel of <" + text + ">", Check.drawn(text, 2, 2).pixel(0, 0), ups == downs ? 255 : 0);
            }
        }
    }

    private static void oddCrossings() {
        CHECK.says("by even-odd if the number of edges that cross is odd");
        String up = "1 0 m 1 1 l 0 1 l 0 0 l ";
        String down = "1 1 m 1 0 l 0 0 l 0 1 l ";
        for (int ups = 0; ups <= 4; ups++) {
            for (int downs = 0; downs <= 4; downs++) {
                String text = "5 5 m " + Check.times(up, ups) + Check.times(down, downs) + "f*";
                CHECK.due("pixel of <" + text + ">", Check.drawn(text, 2, 2).pixel(0, 0), (ups + downs) % 2 == 0 ? 255 : 0);
            }
        }
    }

    private static void lastFilledPathShows() {
        CHECK.says("A pixel shows the grey of the last filled path that covers it ..., white where there was none.");
        CHECK.duePicture("1 g 0 0 2 1 re f 2 g 1 0 2 1 re f* 3 g 0 0 9 1 re n", "122.");
        CHECK.duePicture("1 g 0 0 2 1 re f 255 g 1 0 1 1 re f", "1..");
    }

    private static void cutClips() {
        CHECK.says("A clip that was cut holds the pixels that it held before and that are inside.");
        CHECK.duePicture("0 0 3 3 re W n 1 1 3 3 re W n 0 0 9 9 re f", "....", ".##.", ".##.", "....");
        // Nothing is inside an empty path; then nothing more can be filled, nor come back by another cut.
        CHECK.duePicture("0 0 m W n 0 0 9 9 re f 0 0 9 9 re W f 0 0 9 9 re f", "..", "..");
        CHECK.duePicture("0 0 m W* f 0 0 9 9 re f", "..", "..");
        CHECK.duePicture("-9 -9 99 99 re W n 0 0 9 9 re f", "##", "##");
        CHECK.due("clipped by an empty path", Check.drawn("0 0 m W n", 20, 20).clipped(), 0);
        CHECK.due("clipped by the page itself", Check.drawn("0 0 20 20 re W n", 20, 20).clipped(), 400);
        CHECK.due("clipped by all but a row", Check.drawn("0 0 20 19 re W n", 20, 20).clipped(), 380);
        CHECK.due("clipped by all but a column", Check.drawn("1 0 20 20 re W n", 20, 20).clipped(), 380);
    }

    private static void clipIsCutOnce() {
        CHECK.says("the path will also cut the clip ... when the next f, f* or n is done with, behind its filling");
        String[] finishes = {"f", "f*", "n"};
        for (String finish : finishes) {
            String text = "5 g 1 0 1 1 re W " + finish + " 0 g 0 0 1 1 re " + finish + " 7 g 0 0 3 1 re f";
            CHECK.duePicture(text, ".7.");
            PageRaster open = Check.drawn("1 0 1 1 re W", 3, 1);
            CHECK.due("clipped before " + finish, open.clipped(), 3);
        }
        // Its own filling is not cut by it.
        CHECK.duePicture("0 0 3 1 re 1 0 1 1 re W* f", "###.");
        CHECK.duePicture("0 0 3 1 re 1 0 1 1 re W f*", "#.#.");
        CHECK.due("clipped by W f*", Check.drawn("0 0 3 1 re 1 0 1 1 re W f*", 4, 1).clipped(), 3);
        CHECK.due("clipped by W* f", Check.drawn("0 0 3 1 re 1 0 1 1 re W* f", 4, 1).clipped(), 2);
    }
}
