/** Promise 2: site. Each test bears the document's sentence that it tells. */
public final class SiteTest {
    public static void main(String[] args) {
        oneMoreSite();
        itsNumber();
        fromMinus400To400();
        notSo();
        aSiteAtThePlace();
        noSiteAtThePlace();
        aPlaceThatIsFreeAgain();
        thereAreTwenty();
        twentyAgain();
        theArgumentComesFirst();
        Check.end("SiteTest");
    }

    /** "One more site" */
    private static void oneMoreSite() {
        CircleCells c = new CircleCells();
        for (int s = 0; s < 4; s++) {
            Check.due("how many before site " + s, Check.siteCount(c), s);
            c.site(s, -s * s);
        }
        Check.due("four sites", Check.siteCount(c), 4);
        Check.due("their places, x and y told apart", Check.sitesOf(c, 4), "0 0, 1 -1, 2 -4, 3 -9");
    }

    /** "its number" ("numbered 0, 1, .."): as many as there were. */
    private static void itsNumber() {
        CircleCells c = new CircleCells();
        for (int s = 0; s < 20; s++) {
            Check.due("site " + s, c.site(s, s * s), s);
        }
        c.remove(0);
        c.remove(4);
        Check.due("site after two are gone", c.site(-1, 0), 18);
        c.clear();
        Check.due("site after clear()", c.site(-1, 0), 0);
    }

    /** "from -400 to 400": the outermost are taken. */
    private static void fromMinus400To400() {
        CircleCells c = new CircleCells();
        int[][] edges = Check.edges();
        for (int s = 0; s < edges.length; s++) {
            Check.due("site(" + edges[s][0] + ", " + edges[s][1] + ")", c.site(edges[s][0], edges[s][1]), s);
            Check.due("its x", c.where(s, 0), edges[s][0]);
            Check.due("its y", c.where(s, 1), edges[s][1]);
        }
    }

    /** "IllegalArgumentException: x or y is not so" */
    private static void notSo() {
        for (int[] p : Check.outside()) {
            Check.dueRefused("site(" + p[0] + ", " + p[1] + ")", IllegalArgumentException.class, Check.squareAndMiddle(),
                c -> c.site(p[0], p[1]));
            Check.dueThrow("site(" + p[0] + ", " + p[1] + ") as the first", IllegalArgumentException.class,
                () -> new CircleCells().site(p[0], p[1]));
        }
        CircleCells c = Check.with(1, 1);
        Check.dueThrow("site(401, 1)", IllegalArgumentException.class, () -> c.site(401, 1));
        Check.due("a refused site takes no number: site(2, 2)", c.site(2, 2), 1);
    }

    /** "or there is a site at the place" ("no two at the same place") */
    private static void aSiteAtThePlace() {
        int[] places = Check.squareAndMiddle();
        for (int s = 0; s < 5; s++) {
            int x = places[2 * s];
            int y = places[2 * s + 1];
            Check.dueRefused("site(" + x + ", " + y + ") where site " + s + " is", IllegalArgumentException.class, places,
                c -> c.site(x, y));
        }
        CircleCells moved = Check.with(0, 0);
        moved.move(0, 7, 8);
        Check.dueThrow("site where one has gone", IllegalArgumentException.class, () -> moved.site(7, 8));
        CircleCells shifted = Check.with(0, 0, 5, 6, 7, 8);
        shifted.remove(0);
        Check.dueThrow("site where the last one is", IllegalArgumentException.class, () -> shifted.site(7, 8));
        CircleCells edge = Check.with(-400, 400);
        Check.dueThrow("site in a corner that is taken", IllegalArgumentException.class, () -> edge.site(-400, 400));
    }

    /** Only both numbers together make a place. */
    private static void noSiteAtThePlace() {
        CircleCells c = Check.with(2, 3);
        int[][] others = {{2, 4}, {4, 3}, {3, 2}, {-2, 3}, {2, -3}, {-2, -3}, {0, 0}, {3, 3}, {2, 2}};
        for (int k = 0; k < others.length; k++) {
            Check.due("site(" + others[k][0] + ", " + others[k][1] + ")", c.site(others[k][0], others[k][1]), k + 1);
        }
    }

    private static void aPlaceThatIsFreeAgain() {
        CircleCells c = Check.with(1, 1, 2, 2, 3, 3);
        c.remove(2);
        Check.due("where the last one was: site(3, 3)", c.site(3, 3), 2);
        c.move(0, 5, 5);
        Check.due("where a moved one was: site(1, 1)", c.site(1, 1), 3);
        c.clear();
        Check.due("where one was before clear(): site(2, 2)", c.site(2, 2), 0);
    }

    /** "IllegalStateException: there are 20" ("at most 20 sites") */
    private static void thereAreTwenty() {
        int[] places = Check.twentyPlaces();
        Check.due("twenty sites", Check.siteCount(Check.with(places)), 20);
        for (int[] p : new int[][] {{1, 1}, {-1, 0}, {400, 400}, {-400, -400}}) {
            Check.dueRefused("site(" + p[0] + ", " + p[1] + ") as the 21st", IllegalStateException.class, places,
                c -> c.site(p[0], p[1]));
        }
    }

    private static void twentyAgain() {
        CircleCells c = Check.with(Check.twentyPlaces());
        c.remove(7);
        Check.due("site after one is gone", c.site(1, 1), 19);
        Check.dueThrow("site when there are 20 again", IllegalStateException.class, () -> c.site(1, 2));
        c.move(3, 1, 2);
        Check.dueThrow("a move makes no room", IllegalStateException.class, () -> c.site(9, 0));
        c.clear();
        for (int s = 0; s < 20; s++) {
            Check.due("site " + s + " after clear()", c.site(s, 400), s);
        }
        Check.dueThrow("site 20 after clear()", IllegalStateException.class, () -> c.site(20, 400));
    }

    /** With 20 sites and a wrong place both exceptions are due: the one that the document tells first. */
    private static void theArgumentComesFirst() {
        CircleCells c = Check.with(Check.twentyPlaces());
        Check.dueThrow("site(401, 0) with 20", IllegalArgumentException.class, () -> c.site(401, 0));
        Check.dueThrow("site(0, -401) with 20", IllegalArgumentException.class, () -> c.site(0, -401));
        Check.dueThrow("site(0, 0) with 20, one of them there", IllegalArgumentException.class, () -> c.site(0, 0));
        Check.dueThrow("site(12, 9) with 20, the last one there", IllegalArgumentException.class, () -> c.site(12, 9));
    }
}
