import java.util.NoSuchElementException;

/** Promises 7 to 10: cells, cell, beside, centre. */
public final class CellsTest {
    public static void main(String[] args) {
        onLineThereAreNone();
        threeSites();
        toldRoundFromTheLowest();
        manyOnOneCircle();
        thirtyFiveCells();
        emptyCircleAlone();
        numberedInOrder();
        cellRefuses();
        besideTells();
        besideRefuses();
        centresInLowestTerms();
        centresFarAway();
        centreRefuses();
        Check.end("CellsTest");
    }

    private static void onLineThereAreNone() {
        Check.due("cells of one site", Check.with(0, 0).cells(), 0);
        Check.due("cells of two sites", Check.with(0, 0, 1, 0).cells(), 0);
        Check.due("cells of a slanting line", Check.with(0, 0, 3, 2, -6, -4, 6, 4).cells(), 0);
        Check.due("cells of an upright line", Check.with(0, 0, 0, 5, 0, -5).cells(), 0);
        CircleCells c = Check.with(-400, -400, 400, 400, 0, 0);
        Check.due("cells of the long line", c.cells(), 0);
        c.site(0, 1);
        Check.due("cells beside the long line", Check.cellsOf(c), "0 2 3, 1 3 2");
    }

    private static void threeSites() {
        Check.due("left", Check.cellsOf(Check.with(0, 0, 4, 0, 0, 4)), "0 1 2");
        Check.due("right", Check.cellsOf(Check.with(0, 0, 0, 4, 4, 0)), "0 2 1");
    }

    private static void toldRoundFromTheLowest() {
        Check.due("a square crosswise", Check.cellsOf(Check.with(0, 0, 4, 4, 4, 0, 0, 4)), "0 2 1 3");
        Check.due("a square from another corner", Check.cellsOf(Check.with(4, 4, 0, 0, 4, 0, 0, 4)), "0 3 1 2");
        CircleCells c = Check.with(4, 0, 0, 4, 4, 4, 0, 0);
        Check.due("cell(0, -1)", c.cell(0, -1), 4);
        Check.due("a square", Check.cellsOf(c), "0 2 1 3");
    }

    /** Twenty places on the circle with the radius 65 about the middle, every third one in turn. */
    private static void manyOnOneCircle() {
        int[][] round = {{65, 0}, {63, 16}, {60, 25}, {56, 33}, {52, 39}, {39, 52}, {33, 56}, {25, 60}, {16, 63}, {0, 65},
            {-16, 63}, {-25, 60}, {-33, 56}, {-39, 52}, {-52, 39}, {-56, 33}, {-60, 25}, {-63, 16}, {-65, 0}, {0, -65}};
        CircleCells c = new CircleCells();
        int[] numberAt = new int[20];
        for (int s = 0; s < 20; s++) {
            int at = s * 3 % 20;
            numberAt[at] = c.site(round[at][0], round[at][1]);
        }
        Check.due("cells of twenty on a circle", c.cells(), 1);
        Check.due("its sites", c.cell(0, -1), 20);
        for (int i = 0; i < 20; i++) {
            Check.due("cell(0, " + i + ") of twenty", c.cell(0, i), numberAt[i]);
            Check.due("beside(0, " + i + ") of twenty", c.beside(0, i), -1);
        }
        Check.due("hull(-1) of twenty", c.hull(-1), 20);
        Check.due("centre of twenty", Check.centreOf(c, 0), "0 0 1");
        c.move(19, 0, 0);
        Check.due("cells with one of them in the middle", c.cells(), 19);
    }

    /** Twenty sites with a hull of three make the most cells that there can be. */
    private static void thirtyFiveCells() {
        CircleCells c = Check.with(-400, -400, 400, -399, 3, 400);
        for (int s = 3; s < 20; s++) {
            c.site(s * 7 - 60, s * s % 37 * 5 - 40);
        }
        Check.due("the most cells", c.cells(), 35);
        Check.due("their hull", Check.hullOf(c), "0 1 2");
        int sides = 0;
        for (int k = 0; k < 35; k++) {
            sides += c.cell(k, -1);
        }
        Check.due("their sides", sides, 105);
    }

    private static void emptyCircleAlone() {
        CircleCells flat = Check.with(0, 0, 10, 0, 5, 3, 5, -3);
        Check.due("the short diagonal divides", Check.cellsOf(flat), "0 3 2, 1 2 3");
        CircleCells tall = Check.with(0, 0, 10, 0, 5, 8, 5, -8);
        Check.due("the other diagonal divides", Check.cellsOf(tall), "0 1 2, 0 3 1");
        CircleCells near = Check.with(-400, 0, 0, -400, 400, 0, 0, 400, 399, 28);
        Check.due("a site just within a great circle", Check.cellsOf(near), "0 1 4, 0 4 3, 1 2 4");
        near.move(4, 399, 29);
        Check.due("a site just outside a great circle", Check.cellsOf(near), "0 1 2 3, 2 4 3");
        near.move(4, 240, 320);
        Check.due("a site on a great circle", Check.cellsOf(near), "0 1 2 4 3");
    }

    private static void numberedInOrder() {
        CircleCells c = Check.with(4, 4, 0, 0, 2, 2, 4, 0, 0, 4, 2, 0, 0, 2);
        Check.due("cells by their sites", Check.cellsOf(c), "0 2 3, 0 4 2, 1 5 2 6, 2 4 6, 2 5 3");
    }

    private static void cellRefuses() {
        CircleCells c = Check.with(0, 0, 4, 0, 0, 4);
        for (int k : new int[] {-1, 1, 35, Integer.MAX_VALUE, Integer.MIN_VALUE}) {
            Check.dueThrow("cell(" + k + ", 0)", NoSuchElementException.class, () -> c.cell(k, 0));
            Check.dueThrow("cell(" + k + ", -1)", NoSuchElementException.class, () -> c.cell(k, -1));
            Check.dueThrow("cell(" + k + ", 9)", NoSuchElementException.class, () -> c.cell(k, 9));
        }
        for (int i : new int[] {-2, 3, 20, Integer.MAX_VALUE, Integer.MIN_VALUE}) {
            Check.dueThrow("cell(0, " + i + ")", IndexOutOfBoundsException.class, () -> c.cell(0, i));
        }
        CircleCells two = Check.with(0, 0, 4, 0, 0, 4, 5, 5);
        Check.due("two cells", Check.cellsOf(two), "0 1 2, 1 3 2");
        Check.dueThrow("cell(0, 3) with one behind it", IndexOutOfBoundsException.class, () -> two.cell(0, 3));
    }

    private static void besideTells() {
        CircleCells c = Check.with(0, 0, 4, 0, 4, 4, 0, 4, 2, 2);
        Check.due("cells", Check.cellsOf(c), "0 1 4, 0 4 3, 1 2 4, 2 3 4");
        Check.due("beside", Check.besidesOf(c), "-1 2 1, 0 3 -1, -1 3 0, -1 1 2");
        CircleCells line = Check.with(0, 0, 1, 0, 2, 0, 1, 3);
        Check.due("cells over a line", Check.cellsOf(line), "0 1 3, 1 2 3");
        Check.due("beside over a line", Check.besidesOf(line), "-1 1 -1, -1 -1 0");
    }

    private static void besideRefuses() {
        CircleCells c = Check.with(0, 0, 4, 0, 0, 4);
        for (int k : new int[] {-1, 1, 35, Integer.MAX_VALUE, Integer.MIN_VALUE}) {
            Check.dueThrow("beside(" + k + ", 0)", NoSuchElementException.class, () -> c.beside(k, 0));
            Check.dueThrow("beside(" + k + ", 9)", NoSuchElementException.class, () -> c.beside(k, 9));
        }
        for (int i : new int[] {-1, -2, 3, 20, Integer.MAX_VALUE, Integer.MIN_VALUE}) {
            Check.dueThrow("beside(0, " + i + ")", IndexOutOfBoundsException.class, () -> c.beside(0, i));
        }
        Check.dueThrow("beside(0, 0) of none", NoSuchElementException.class, () -> new CircleCells().beside(0, 0));
    }

    private static void centresInLowestTerms() {
        Check.due("a whole centre", Check.centreOf(Check.with(0, 0, 4, 0, 0, 4), 0), "2 2 1");
        Check.due("told right", Check.centreOf(Check.with(0, 0, 0, 4, 4, 0), 0), "2 2 1");
        Check.due("halves", Check.centreOf(Check.with(0, 0, 1, 0, 0, 1), 0), "1 1 2");
        Check.due("a half and a whole", Check.centreOf(Check.with(0, 0, 1, 0, 0, 2), 0), "1 2 2");
        Check.due("below 0", Check.centreOf(Check.with(0, 0, -1, 0, 0, -1), 0), "-1 -1 2");
        Check.due("the middle", Check.centreOf(Check.with(5, 0, -5, 0, 0, 5), 0), "0 0 1");
        Check.due("X is 0", Check.centreOf(Check.with(-3, 0, 3, 0, 0, 2), 0), "0 -5 4");
        Check.due("Y is 0", Check.centreOf(Check.with(0, -3, 2, 0, 0, 3), 0), "-5 0 4");
        Check.due("a third and a sixth", Check.centreOf(Check.with(0, 0, 6, 3, 2, 4), 0), "20 5 6");
        Check.due("fourteenths", Check.centreOf(Check.with(0, 0, 4, 2, 1, 4), 0), "23 24 14");
        Check.due("eighteenths", Check.centreOf(Check.with(7, -3, 12, -2, 8, -1), 0), "173 -55 18");
        Check.due("not from the middle", Check.centreOf(Check.with(10, 10, 11, 10, 10, 11), 0), "21 21 2");
    }

    /** Three sites nearly on a line: the numbers are as great as they get. */
    private static void centresFarAway() {
        CircleCells c = Check.with(-400, -400, 400, 399, -399, -399);
        Check.due("far away", Check.cellsOf(c), "0 1 2");
        Check.due("the centre far away", Check.centreOf(c, 0), "1276003 -1277601 2");
        c.move(2, 1, 0);
        Check.due("far away on the other hand", Check.cellsOf(c), "0 2 1");
        Check.due("the centre on the other hand", Check.centreOf(c, 0), "-639999 640799 2");
    }

    private static void centreRefuses() {
        CircleCells c = Check.with(0, 0, 4, 0, 0, 4);
        for (int w : new int[] {-1, 3, Integer.MAX_VALUE, Integer.MIN_VALUE}) {
            Check.dueThrow("centre(0, " + w + ")", IllegalArgumentException.class, () -> c.centre(0, w));
            Check.dueThrow("centre(7, " + w + ")", IllegalArgumentException.class, () -> c.centre(7, w));
        }
        for (int k : new int[] {-1, 1, 35, Integer.MAX_VALUE, Integer.MIN_VALUE}) {
            Check.dueThrow("centre(" + k + ", 2)", NoSuchElementException.class, () -> c.centre(k, 2));
        }
    }
}
