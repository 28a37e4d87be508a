import java.util.NoSuchElementException;

/** Promise 10: centre. Each test bears the document's sentence that it tells. */
public final class CentreTest {
    public static void main(String[] args) {
        xYOrD();
        dAboveZero();
        noNumberButOneDividesAllThree();
        whereXOrYIsZero();
        anySitesOfTheCell();
        theGreatestNumbers();
        farFromTheSites();
        noSuchCell();
        noSuchWhat();
        theWhatComesFirst();
        Check.end("CentreTest");
    }

    /** "Of a cell's centre X (what 0), Y (1) or D (2)." */
    private static void xYOrD() {
        CircleCells c = Check.with(0, 0, 4, 2, 1, 4);
        Check.due("centre(0, 0)", c.centre(0, 0), 23);
        Check.due("centre(0, 1)", c.centre(0, 1), 24);
        Check.due("centre(0, 2)", c.centre(0, 2), 14);
        CircleCells square = Check.with(Check.squareAndMiddle());
        String[] centres = {"2 0 1", "0 2 1", "4 2 1", "2 4 1"};
        for (int k = 0; k < 4; k++) {
            Check.due("centre of cell " + k, Check.centreOf(square, k), centres[k]);
        }
    }

    /** "with D above 0", whatever way round the sites were added and on whatever hand of 0 they lie. */
    private static void dAboveZero() {
        Check.due("added to the left", Check.centreOf(Check.with(0, 0, 4, 0, 0, 4), 0), "2 2 1");
        Check.due("added to the right", Check.centreOf(Check.with(0, 0, 0, 4, 4, 0), 0), "2 2 1");
        Check.due("below 0", Check.centreOf(Check.with(0, 0, -1, 0, 0, -1), 0), "-1 -1 2");
        Check.due("below 0, added to the right", Check.centreOf(Check.with(0, 0, 0, -1, -1, 0), 0), "-1 -1 2");
        Check.due("X alone below 0", Check.centreOf(Check.with(0, 0, -1, 0, 0, 1), 0), "-1 1 2");
        Check.due("Y alone below 0", Check.centreOf(Check.with(0, 0, 1, 0, 0, -1), 0), "1 -1 2");
    }

    /** "no number but 1 that divides all three": two of them may have one. */
    private static void noNumberButOneDividesAllThree() {
        Check.due("a whole centre", Check.centreOf(Check.with(1, 1, 7, 1, 1, 9), 0), "4 5 1");
        Check.due("halves", Check.centreOf(Check.with(0, 0, 1, 0, 0, 1), 0), "1 1 2");
        Check.due("2 divides Y and D", Check.centreOf(Check.with(0, 0, 1, 0, 0, 2), 0), "1 2 2");
        Check.due("2 divides X and D", Check.centreOf(Check.with(0, 0, 2, 0, 0, 1), 0), "2 1 2");
        Check.due("5 divides X and Y", Check.centreOf(Check.with(0, 0, 6, 3, 2, 4), 0), "20 5 6");
        Check.due("eighteenths", Check.centreOf(Check.with(7, -3, 12, -2, 8, -1), 0), "173 -55 18");
        Check.due("not from the middle", Check.centreOf(Check.with(10, 10, 11, 10, 10, 11), 0), "21 21 2");
    }

    private static void whereXOrYIsZero() {
        Check.due("both are 0", Check.centreOf(Check.with(5, 0, -5, 0, 0, 5), 0), "0 0 1");
        Check.due("both are 0 for the greatest", Check.centreOf(Check.with(400, 400, -400, 400, -400, -400), 0), "0 0 1");
        Check.due("X is 0", Check.centreOf(Check.with(-3, 0, 3, 0, 0, 2), 0), "0 -5 4");
        Check.due("Y is 0", Check.centreOf(Check.with(0, -3, 2, 0, 0, 3), 0), "-5 0 4");
    }

    /** "that of its circle": the same by whatever sites of it. */
    private static void anySitesOfTheCell() {
        for (int start = 0; start < 20; start++) {
            Check.due("twenty on a circle", Check.centreOf(Check.roundTheCircle(start, 9), 0), "0 0 1");
        }
        Check.due("four, moved", Check.centreOf(Check.with(396, -399, 399, -398, 398, -395, 395, -396), 0), "397 -397 1");
    }

    /** "from -400 to 400": X and D as great as they get. */
    private static void theGreatestNumbers() {
        Check.due("a great X", Check.centreOf(Check.with(10, 1, 399, 400, -400, -400), 0), "-255598801 255271711 15202");
        Check.due("a great D", Check.centreOf(Check.with(-400, -400, 400, -399, -397, 400), 0), "-636809 -1910403 1279994");
        Check.due("a great X and D", Check.centreOf(Check.with(-399, 400, -398, -400, -7, 3), 0), "-254997991 -6719 626406");
    }

    /** Three sites that go left by 1 alone: the centre lies far away. */
    private static void farFromTheSites() {
        CircleCells c = Check.with(-400, -400, 400, 399, -399, -399);
        Check.due("the centre far away", Check.centreOf(c, 0), "1276003 -1277601 2");
        c.move(2, 1, 0);
        Check.due("the centre far away on the other hand", Check.centreOf(c, 0), "-639999 640799 2");
    }

    /** "NoSuchElementException: no such cell" */
    private static void noSuchCell() {
        for (int what = 0; what < 3; what++) {
            int w = what;
            for (int k : new int[] {-1, -2, 4, 5, 35, Integer.MAX_VALUE, Integer.MIN_VALUE}) {
                Check.dueRefused("centre(" + k + ", " + w + ") of 4 cells", NoSuchElementException.class,
                    Check.squareAndMiddle(), c -> c.centre(k, w));
            }
            Check.dueThrow("centre(35, " + w + ") of 35 cells", NoSuchElementException.class,
                () -> Check.mostCells().centre(35, w));
            Check.dueThrow("centre(0, " + w + ") of no site", NoSuchElementException.class,
                () -> new CircleCells().centre(0, w));
            Check.dueThrow("centre(0, " + w + ") of a line", NoSuchElementException.class,
                () -> Check.with(0, 0, 1, 1, 2, 2).centre(0, w));
        }
    }

    /** "IllegalArgumentException: no such what" */
    private static void noSuchWhat() {
        for (int w : new int[] {-1, -2, 3, 4, Integer.MAX_VALUE, Integer.MIN_VALUE}) {
            for (int k : new int[] {0, 3}) {
                Check.dueRefused("centre(" + k + ", " + w + ")", IllegalArgumentException.class, Check.squareAndMiddle(),
                    c -> c.centre(k, w));
            }
        }
    }

    /** "(this first)" */
    private static void theWhatComesFirst() {
        for (int w : new int[] {-1, 3, Integer.MIN_VALUE}) {
            for (int k : new int[] {-1, 4, 35, Integer.MAX_VALUE}) {
                Check.dueRefused("centre(" + k + ", " + w + ") of 4 cells", IllegalArgumentException.class,
                    Check.squareAndMiddle(), c -> c.centre(k, w));
            }
            Check.dueThrow("centre(0, " + w + ") of no site", IllegalArgumentException.class,
                () -> new CircleCells().centre(0, w));
        }
    }
}
