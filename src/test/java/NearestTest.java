/** Promise 13: nearest. Each test bears the document's sentence that it tells. */
public final class NearestTest {
    public static void main(String[] args) {
        theNearestSite();
        onTheSite();
        withTheLeast();
        byOne();
        ofSeveralTheLowestNumber();
        withoutCells();
        theLastOfTwenty();
        fromMinus400To400();
        notFromMinus400To400();
        thereIsNoSite();
        theArgumentComesFirst();
        Check.end("NearestTest");
    }

    /** "The nearest site." */
    private static void theNearestSite() {
        CircleCells c = Check.with(0, 0, 10, 0, 0, 10);
        Check.due("nearest(1, 1)", c.nearest(1, 1), 0);
        Check.due("nearest(6, 1)", c.nearest(6, 1), 1);
        Check.due("nearest(1, 6)", c.nearest(1, 6), 2);
        c.move(0, 9, 9);
        Check.due("nearest(1, 1) after move", c.nearest(1, 1), 1);
        c.remove(1);
        Check.due("nearest(10, 0) after remove", c.nearest(10, 0), 0);
    }

    private static void onTheSite() {
        int[] places = Check.squareAndMiddle();
        CircleCells c = Check.with(places);
        for (int s = 0; s < 5; s++) {
            Check.due("nearest on site " + s, c.nearest(places[2 * s], places[2 * s + 1]), s);
        }
    }

    /** "the least (x - px)^2 + (y - py)^2" */
    private static void withTheLeast() {
        Check.due("not the steps", Check.with(0, 5, 3, 3).nearest(0, 0), 1);
        Check.due("not the longer of x and y", Check.with(4, 4, 5, 0).nearest(0, 0), 1);
        Check.due("below 0", Check.with(3, 0, -2, 0).nearest(0, 0), 1);
        Check.due("y counts", Check.with(0, 3, 0, -2).nearest(0, 0), 1);
    }

    /** Two that differ by 1 of more than a million. */
    private static void byOne() {
        CircleCells c = Check.with(369, 376, 344, 400);
        Check.due("1193537 and 1193536", c.nearest(-400, -400), 1);
        Check.due("1193536 and 1193537", Check.with(344, 400, 369, 376).nearest(-400, -400), 0);
    }

    /** "of several the one with the lowest number" */
    private static void ofSeveralTheLowestNumber() {
        Check.due("the lowest of four", Check.with(9, 9, 0, 5, 5, 0, 4, 3, -3, -4).nearest(0, 0), 1);
        Check.due("half way", Check.with(4, 0, 0, 0).nearest(2, 0), 0);
        Check.due("half way, added the other way round", Check.with(0, 0, 4, 0).nearest(2, 0), 0);
        Check.due("1158242 twice", Check.with(361, 361, 321, 399).nearest(-400, -400), 0);
        for (int start = 0; start < 20; start++) {
            CircleCells c = Check.roundTheCircle(start, 3);
            Check.due("the lowest of twenty", c.nearest(0, 0), 0);
            c.remove(0);
            Check.due("the lowest of nineteen", c.nearest(0, 0), 0);
        }
    }

    private static void withoutCells() {
        Check.due("of one", Check.with(0, 0).nearest(5, 5), 0);
        Check.due("of two", Check.with(0, 0, 5, 5).nearest(3, 3), 1);
        Check.due("on a line", Check.with(0, 0, 5, 5, 9, 9).nearest(9, 8), 2);
    }

    private static void theLastOfTwenty() {
        CircleCells c = Check.with(Check.twentyPlaces());
        Check.due("nearest(400, 400) of 20", c.nearest(400, 400), 19);
        Check.due("nearest(-400, -400) of 20", c.nearest(-400, -400), 0);
        c.remove(19);
        Check.due("nearest(400, 400) of 19", c.nearest(400, 400), 18);
    }

    /** "from -400 to 400": the outermost are answered. */
    private static void fromMinus400To400() {
        int[][] edges = Check.edges();
        CircleCells c = new CircleCells();
        c.site(0, 0);
        for (int[] p : edges) {
            Check.due("nearest(" + p[0] + ", " + p[1] + ") of one", c.nearest(p[0], p[1]), 0);
        }
        for (int[] p : edges) {
            c.site(p[0], p[1]);
        }
        for (int k = 0; k < edges.length; k++) {
            Check.due("nearest(" + edges[k][0] + ", " + edges[k][1] + ")", c.nearest(edges[k][0], edges[k][1]), k + 1);
        }
        Check.due("from corner to corner", Check.with(400, 400).nearest(-400, -400), 0);
    }

    /** "IllegalArgumentException: x or y is not from -400 to 400" */
    private static void notFromMinus400To400() {
        for (int[] p : Check.outside()) {
            Check.dueRefused("nearest(" + p[0] + ", " + p[1] + ")", IllegalArgumentException.class,
                Check.squareAndMiddle(), c -> c.nearest(p[0], p[1]));
            Check.dueThrow("nearest(" + p[0] + ", " + p[1] + ") of one", IllegalArgumentException.class,
                () -> Check.with(0, 0).nearest(p[0], p[1]));
        }
    }

    /** "IllegalStateException: there is no site" */
    private static void thereIsNoSite() {
        for (int[] p : Check.edges()) {
            Check.dueRefused("nearest(" + p[0] + ", " + p[1] + ") of none", IllegalStateException.class, new int[0],
                c -> c.nearest(p[0], p[1]));
        }
        CircleCells c = Check.with(1, 1);
        c.remove(0);
        Check.dueThrow("nearest(1, 1) after remove", IllegalStateException.class, () -> c.nearest(1, 1));
        c.site(1, 1);
        Check.due("nearest(1, 1) with a site again", c.nearest(1, 1), 0);
        c.clear();
        Check.dueThrow("nearest(1, 1) after clear()", IllegalStateException.class, () -> c.nearest(1, 1));
    }

    /** With no site and a wrong place both exceptions are due: the one that the document tells first. */
    private static void theArgumentComesFirst() {
        for (int[] p : Check.outside()) {
            Check.dueThrow("nearest(" + p[0] + ", " + p[1] + ") of none", IllegalArgumentException.class,
                () -> new CircleCells().nearest(p[0], p[1]));
        }
    }
}
