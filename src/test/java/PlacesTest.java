/** Promises 12 and 13: around, nearest. */
public final class PlacesTest {
    private static final int[][] OUTSIDE = {{401, 0}, {-401, 0}, {0, 401}, {0, -401},
        {Integer.MAX_VALUE, 0}, {Integer.MIN_VALUE, 0}, {0, Integer.MAX_VALUE}, {0, Integer.MIN_VALUE}};

    public static void main(String[] args) {
        aroundTells();
        aroundOnSidesAndSites();
        aroundWithoutCells();
        aroundRefuses();
        nearestTells();
        nearestOfSeveral();
        nearestRefuses();
        Check.end("PlacesTest");
    }

    private static void aroundTells() {
        CircleCells c = Check.with(0, 0, 8, 0, 8, 8, 0, 8, 4, 4);
        Check.due("cells", Check.cellsOf(c), "0 1 4, 0 4 3, 1 2 4, 2 3 4");
        Check.due("around below", c.around(4, 1), 0);
        Check.due("around left", c.around(1, 4), 1);
        Check.due("around right", c.around(7, 4), 2);
        Check.due("around above", c.around(4, 7), 3);
        Check.due("around outside", c.around(9, 4), -1);
        Check.due("around below all", c.around(4, -1), -1);
        Check.due("around far away", c.around(-400, 400), -1);
        c.move(4, 4, 20);
        Check.due("around after move", c.around(4, 7), 0);
        Check.due("around after move, above", c.around(4, 19), 1);
    }

    private static void aroundOnSidesAndSites() {
        CircleCells c = Check.with(0, 0, 8, 0, 8, 8, 0, 8, 4, 4);
        Check.due("on the side of 0 and 1", c.around(2, 2), 0);
        Check.due("on the side of 0 and 2", c.around(6, 2), 0);
        Check.due("on the side of 1 and 3", c.around(2, 6), 1);
        Check.due("on the side of 2 and 3", c.around(6, 6), 2);
        Check.due("on the site of all", c.around(4, 4), 0);
        Check.due("on a corner", c.around(8, 8), 2);
        Check.due("on another corner", c.around(0, 8), 1);
        Check.due("on the hull's side", c.around(3, 8), 3);
        Check.due("on the line of a side, outside", c.around(9, 8), -1);
        Check.due("on the line of a diagonal, outside", c.around(-1, -1), -1);
        CircleCells edge = Check.with(-400, -400, 400, -400, 400, 400, -400, 400);
        Check.due("around(400, 400)", edge.around(400, 400), 0);
        Check.due("around(-400, 400)", edge.around(-400, 400), 0);
    }

    private static void aroundWithoutCells() {
        Check.due("around of none", new CircleCells().around(0, 0), -1);
        Check.due("around on a line", Check.with(0, 0, 1, 1, 2, 2).around(1, 1), -1);
    }

    private static void aroundRefuses() {
        CircleCells c = Check.with(0, 0, 4, 0, 0, 4);
        for (int[] p : OUTSIDE) {
            String place = "(" + p[0] + ", " + p[1] + ")";
            Check.dueThrow("around" + place, IllegalArgumentException.class, () -> c.around(p[0], p[1]));
            Check.dueThrow("around" + place + " of none", IllegalArgumentException.class,
                () -> new CircleCells().around(p[0], p[1]));
        }
    }

    private static void nearestTells() {
        CircleCells c = Check.with(0, 0, 10, 0, 0, 10);
        Check.due("nearest(1, 1)", c.nearest(1, 1), 0);
        Check.due("nearest(6, 1)", c.nearest(6, 1), 1);
        Check.due("nearest(1, 6)", c.nearest(1, 6), 2);
        Check.due("nearest(-400, 400)", c.nearest(-400, 400), 2);
        Check.due("nearest(400, -400)", c.nearest(400, -400), 1);
        Check.due("nearest on a site", c.nearest(0, 10), 2);
        Check.due("by the straight way, not the steps", Check.with(0, 5, 3, 3).nearest(0, 0), 1);
        Check.due("from corner to corner", Check.with(400, 400).nearest(-400, -400), 0);
        Check.due("of two on a line", Check.with(0, 0, 5, 5).nearest(3, 3), 1);
    }

    private static void nearestOfSeveral() {
        Check.due("the lowest of four", Check.with(9, 9, 0, 5, 5, 0, 4, 3, -3, -4).nearest(0, 0), 1);
        Check.due("the lowest of two", Check.with(1, 0, 0, 0).nearest(0, 0), 1);
        Check.due("half way", Check.with(4, 0, 0, 0).nearest(2, 0), 0);
    }

    private static void nearestRefuses() {
        CircleCells c = Check.with(0, 0);
        for (int[] p : OUTSIDE) {
            String place = "(" + p[0] + ", " + p[1] + ")";
            Check.dueThrow("nearest" + place, IllegalArgumentException.class, () -> c.nearest(p[0], p[1]));
            Check.dueThrow("nearest" + place + " of none", IllegalArgumentException.class,
                () -> new CircleCells().nearest(p[0], p[1]));
        }
        Check.dueThrow("nearest of none", IllegalStateException.class, () -> new CircleCells().nearest(400, -400));
    }
}
