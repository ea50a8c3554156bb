/** Promises 5 and 8: where a path's edges stand, and which pixels are inside. */
public final class PathTest {
    private static final Check CHECK = new Check();

    public static void main(String[] args) {
        rectangles();
        samplePointsOnEdges();
        rules();
        subpaths();
        currentPoints();
        curves();
        matrices();
        edgesFarOutside();
        CHECK.end();
    }

    private static void rectangles() {
        CHECK.duePicture("1 0 2 3 re f", "....", ".##.", ".##.", ".##.");
        CHECK.duePicture("3 3 -2 -3 re f", "....", ".##.", ".##.", ".##.");
        CHECK.duePicture("1 3 2 -3 re f*", "....", ".##.", ".##.", ".##.");
        CHECK.duePicture("1 1 0 3 re 0 2 3 0 re f", "....", "....", "....");
        CHECK.duePicture("-2 -2 3 3 re 3 2 9 9 re f", "...#", "....", "#...");
        // A rectangle sheared by the matrix is no rectangle on the page.
        CHECK.duePicture("1 0 2 1 0 0 cm 0 0 2 2 re f", "...##.", ".##...");
    }

    private static void samplePointsOnEdges() {
        // On a left edge is inside, on a right edge is not.
        CHECK.duePicture("0 0 m 4 0 l 0 4 l f", ".....", ".....", "#....", "##...", "###..");
        CHECK.duePicture("4 0 m 4 4 l 0 4 l f", ".....", "####.", ".###.", "..##.", "...#.");
        CHECK.duePicture("0 4 m 4 0 l 4 4 l f*", ".....", "####.", ".###.", "..##.", "...#.");
        // Row y is crossed from its lower height on, up to before the upper one.
        CHECK.duePicture("0 1 m 3 1 l 3 2 l 0 2 l f", "...", "###", "...");
        CHECK.duePicture("0 0 m 6 0 l 3 3 l f", "......", "..#...", ".###..", "#####.");
    }

    private static void rules() {
        CHECK.duePicture("0 0 5 5 re 1 1 3 3 re f", "#####", "#####", "#####", "#####", "#####");
        CHECK.duePicture("0 0 5 5 re 1 1 3 3 re f*", "#####", "#...#", "#...#", "#...#", "#####");
        CHECK.duePicture("0 0 5 5 re 1 4 3 -3 re f", "#####", "#...#", "#...#", "#...#", "#####");
        CHECK.duePicture("0 0 2 2 re 0 0 2 2 re f", "..." , "##.", "##.");
        CHECK.duePicture("0 0 2 2 re 0 0 2 2 re f*", "...", "...", "...");
        CHECK.duePicture("0 0 2 2 re 0 2 2 -2 re f", "...", "...", "...");
        CHECK.duePicture("0 0 2 2 re 0 0 2 2 re 0 0 2 2 re f*", "...", "##.", "##.");
        // Twice one way round and once the other way is still not as many.
        CHECK.duePicture("0 0 2 2 re 0 0 2 2 re 0 2 2 -2 re f", "...", "##.", "##.");
        CHECK.duePicture("0 2 2 -2 re f", "...", "##.", "##.");
        CHECK.duePicture("0 2 2 -2 re f*", "...", "##.", "##.");
    }

    private static void subpaths() {
        CHECK.duePicture("0 0 m 3 0 l 3 3 l 0 3 l f", "....", "###.", "###.", "###.");
        CHECK.duePicture("0 0 m 2 0 l 2 2 l 0 2 l 3 0 m 5 0 l 5 2 l 3 2 l f", "##.##.", "##.##.");
        CHECK.duePicture("0 0 m 2 0 l 2 2 l 0 2 l 3 0 2 2 re f", "##.##.", "##.##.");
        CHECK.duePicture("0 0 m 2 2 m 3 3 m f", "....", "....", "....", "....");
        CHECK.duePicture("1 1 m f 0 0 1 1 re f", "..", "#.");
        CHECK.duePicture("3 3 m 0 0 m 2 0 l 2 2 l 0 2 l 9 9 m f", "....", "##..", "##..");
        // Nothing of a path is left for the next one.
        CHECK.duePicture("0 0 m 3 0 l 3 3 l n 5 g 0 0 m 0 1 l 1 1 l 1 0 l f", "...", "...", "5..");
        // The edge that is added to a subpath before the last one is what bounds it on the right.
        CHECK.duePicture("2 2 m 0 2 l 0 0 l 2 0 l 3 0 2 2 re f", "##.##.", "##.##.");
        CHECK.duePicture("2 2 m 0 2 l 0 0 l 2 0 l 5 0 m f", "##....", "##....");
        // More than sixty edges with those added.
        String crowd = "0 0 m " + Check.times("h ", 30) + Check.times("1 0 m 1 2 l ", 20);
        CHECK.duePicture(crowd + "3 0 m 3 2 l 0 2 l 0 0 l f", "###.", "###.");
        CHECK.duePicture(crowd + "3 0 m 3 2 l 0 2 l 0 0 l f*", "###.", "###.");
        // What is left of a path that a fault broke off is not in the next drawing.
        PageRaster raster = Check.drawn("3 0 m 3 3 l 0 3 l W x", 3, 3);
        raster.clear();
        Check.feedAll(raster, "0 0 m 1 0 l 1 1 l 0 1 l f 7 g 2 2 1 1 re f");
        CHECK.due("after a broken path: draw", raster.draw(3, 3), 0);
        CHECK.due("after a broken path", Check.picture(raster, 3, 3), "..7\n...\n#..");
        CHECK.due("after a broken path: edges", raster.edges(), 4);
    }

    private static void currentPoints() {
        // After h it is where the subpath began.
        CHECK.duePicture("1 1 m 3 1 l h 1 3 l 3 3 l f", "....", ".#..", "....", "....");
        // After re, too.
        CHECK.duePicture("0 0 1 1 re 0 3 l 3 3 l f", "##..", "#...", "#...");
        // After l and c it is where the edge ended.
        CHECK.duePicture("0 0 m 2 0 2 0 2 0 c 2 2 l 0 2 l f", "##.", "##.");
        // h goes to the beginning of the latest subpath.
        CHECK.duePicture("0 0 m 3 1 m 5 1 l 5 3 l 3 3 l h f", "...##", "...##", ".....");
    }

    private static void curves() {
        // By (1, 5), (4, 6) and (7, 5), which are rounded from 80/64, 256/64 and 432/64 across, 288/64 and 384/64 up.
        CHECK.duePicture("0 0 m 0 8 8 8 8 0 c f",
            "........", "........", "..###...", ".######.", ".######.", "#######.", "########", "########");
        // A curve along a line stays on it.
        CHECK.duePicture("0 0 m 4 0 l 4 4 l 3 3 1 1 0 0 c f", "...#.", "..##.", ".###.", "####.");
        // The third point is (-1, 0): below 0 the floor of -22/64 is not what cutting off would give.
        CHECK.duePicture("0 0 m 0 0 -10 -7 8 6 c 0 6 l f",
            "#######.", "######..", "####....", "###.....", "#.......", "........");
        // The curve's points are those on the page, so that the matrix comes before the rounding.
        CHECK.duePicture("8 0 0 8 0 0 cm 0 0 m 0 1 1 1 1 0 c f",
            "........", "........", "..###...", ".######.", ".######.", "#######.", "########", "########");
    }

    private static void matrices() {
        CHECK.duePicture("2 0 0 2 0 0 cm 1 0 0 1 1 1 cm 0 0 1 1 re f", "..##", "..##", "....", "....");
        CHECK.duePicture("1 0 0 1 1 1 cm 2 0 0 2 0 0 cm 0 0 1 1 re f", "....", ".##.", ".##.", "....");
        CHECK.duePicture("0 1 -1 0 4 0 cm 0 0 3 1 re f", "...#.", "...#.", "...#.");
        CHECK.duePicture("0 2 -1 0 4 0 cm 1 0 0 1 1 1 cm 0 0 1 2 re f", ".##..", ".##..", ".....", ".....");
        CHECK.duePicture("-1 0 0 -1 4 3 cm 0 0 1 2 re f", "...#", "...#", "....");
        CHECK.duePicture("0 0 0 0 1 1 cm 0 0 9 9 re f", "...", "...", "...");
        // q keeps them in force, Q brings them back.
        CHECK.duePicture("5 g 2 0 1 3 1 2 cm q 0 0 1 1 re f Q", "..55.", ".55..", ".55..", ".....", ".....");
        CHECK.duePicture("1 g q 2 g 1 0 0 1 2 0 cm 0 0 1 1 re f Q 0 0 1 1 re f", "1.2.");
        CHECK.duePicture("q 1 0 0 1 1 0 cm q 3 g 1 0 0 1 1 0 cm 0 0 1 1 re f Q 0 0 1 1 re f Q 2 g 0 0 1 1 re f", "2#3.");
    }

    private static void edgesFarOutside() {
        String far = Check.times("1 0 0 1 8190 8190 cm ", 4);
        CHECK.duePicture(far + "7 7 m -9999 7 l 7 -9999 l f", "..", "..");
        // From corner to corner of what is in range: the products need more than 32 bits.
        CHECK.duePicture("32 0 0 32 0 0 cm -1023 -1023 m 1023 1023 l 1023 -1023 l f",
            "....", "...#", "..##", ".###", "####");
        CHECK.duePicture("32 0 0 32 0 0 cm -1023 1023 m 1023 -1023 l -1023 -1023 l f", "..", "..");
        CHECK.duePicture("32 0 0 32 0 0 cm 1023 -1023 m -1023 1023 l 1023 1023 l f", "##", "##");
    }
}
