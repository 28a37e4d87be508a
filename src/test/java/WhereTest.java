/** Promise 6: where. Each test bears the document's sentence that it tells. */
public final class WhereTest {
    public static void main(String[] args) {
        xAndY();
        firstAndLastOfTwenty();
        theOutermostPlaces();
        noSuchSite();
        noSuchWhat();
        Check.end("WhereTest");
    }

    /** "x (what 0) or y (what 1) of a site" */
    private static void xAndY() {
        CircleCells c = Check.with(-3, 7, 5, -11);
        Check.due("where(0, 0)", c.where(0, 0), -3);
        Check.due("where(0, 1)", c.where(0, 1), 7);
        Check.due("where(1, 0)", c.where(1, 0), 5);
        Check.due("where(1, 1)", c.where(1, 1), -11);
    }

    private static void firstAndLastOfTwenty() {
        CircleCells c = Check.with(Check.twentyPlaces());
        Check.due("where(0, 0) of 20", c.where(0, 0), 0);
        Check.due("where(7, 1) of 20", c.where(7, 1), 4);
        Check.due("where(19, 0) of 20", c.where(19, 0), 12);
        Check.due("where(19, 1) of 20", c.where(19, 1), 9);
        Check.dueThrow("where(20, 0) of 20", IllegalArgumentException.class, () -> c.where(20, 0));
    }

    /** "from -400 to 400" */
    private static void theOutermostPlaces() {
        CircleCells c = Check.with(-400, 400, 400, -400);
        Check.due("the outermost", Check.sitesOf(c, 2), "-400 400, 400 -400");
    }

    /** "IllegalArgumentException: no such site" */
    private static void noSuchSite() {
        for (int s : new int[] {-1, 5, 6, 19, 20, Integer.MAX_VALUE, Integer.MIN_VALUE}) {
            for (int what = 0; what < 2; what++) {
                int w = what;
                Check.dueRefused("where(" + s + ", " + w + ") of 5", IllegalArgumentException.class,
                    Check.squareAndMiddle(), c -> c.where(s, w));
            }
        }
        Check.dueThrow("where(0, 0) of none", IllegalArgumentException.class, () -> new CircleCells().where(0, 0));
        CircleCells c = Check.with(1, 1, 2, 2);
        c.remove(0);
        Check.dueThrow("where(1, 0) after remove", IllegalArgumentException.class, () -> c.where(1, 0));
    }

    /** "or what" */
    private static void noSuchWhat() {
        for (int w : new int[] {-1, 2, 3, Integer.MAX_VALUE, Integer.MIN_VALUE}) {
            for (int s : new int[] {0, 4, 5, -1}) {
                Check.dueRefused("where(" + s + ", " + w + ") of 5", IllegalArgumentException.class,
                    Check.squareAndMiddle(), c -> c.where(s, w));
            }
        }
    }
}
