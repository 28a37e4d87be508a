/** Promise 5: clear. Each test bears the document's sentence that it tells. */
public final class ClearTest {
    public static void main(String[] args) {
        noSites();
        clearOfNone();
        asNew();
        twentyAgain();
        Check.end("ClearTest");
    }

    /** "No sites.", however many there were, and whether the cells had been asked for or not. */
    private static void noSites() {
        String none = Check.stateOf(new CircleCells());
        for (int[] places : new int[][] {{0, 0}, {0, 0, 4, 0, 0, 4}, Check.squareAndMiddle(), Check.twentyPlaces()}) {
            CircleCells unasked = Check.with(places);
            unasked.clear();
            Check.due("all answers after clear()", Check.stateOf(unasked), none);
            Check.due("around(1, 1) after clear()", unasked.around(1, 1), -1);
            Check.dueThrow("nearest after clear()", IllegalStateException.class, () -> unasked.nearest(0, 0));
            CircleCells asked = Check.with(places);
            asked.cells();
            asked.clear();
            Check.due("all answers after cells() and clear()", Check.stateOf(asked), none);
        }
    }

    private static void clearOfNone() {
        CircleCells c = new CircleCells();
        c.clear();
        c.clear();
        Check.due("sites of none after clear()", Check.siteCount(c), 0);
        Check.due("site(1, 2) after it", c.site(1, 2), 0);
    }

    /** What comes after it is as on a new object; old places are free. */
    private static void asNew() {
        CircleCells c = Check.with(Check.squareAndMiddle());
        c.clear();
        Check.due("site after clear()", c.site(4, 0), 0);
        Check.due("nearest of the one site", c.nearest(-400, -400), 0);
        c.site(4, 4);
        c.site(0, 0);
        Check.due("all answers", Check.stateOf(c), Check.stateOf(Check.with(4, 0, 4, 4, 0, 0)));
    }

    /** "at most 20 sites" counts from none again. */
    private static void twentyAgain() {
        CircleCells c = Check.with(Check.twentyPlaces());
        c.clear();
        for (int s = 0; s < 20; s++) {
            Check.due("site " + s + " after clear()", c.site(0, s), s);
        }
        Check.dueThrow("the 21st after clear()", IllegalStateException.class, () -> c.site(0, 20));
    }
}
