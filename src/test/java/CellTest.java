import java.util.NoSuchElementException;

/** Promise 8: cell. Each test bears the document's sentence that it tells. */
public final class CellTest {
    public static void main(String[] args) {
        siteIFromItsFirstOne();
        iIsMinusOne();
        toldRoundToTheLeft();
        fromTheLowestNumberOn();
        twentySites();
        numberedByFirstSites();
        numberedInAllFigures();
        noSuchCell();
        noSuchI();
        noSuchIOfTwenty();
        theCellComesFirst();
        Check.end("CellTest");
    }

    /** "Site i of a cell, from its first one (0) on" */
    private static void siteIFromItsFirstOne() {
        CircleCells c = Check.with(Check.squareAndMiddle());
        Check.due("cell(0, 0)", c.cell(0, 0), 0);
        Check.due("cell(0, 1)", c.cell(0, 1), 1);
        Check.due("cell(0, 2)", c.cell(0, 2), 4);
        Check.due("cell(3, 0)", c.cell(3, 0), 2);
        Check.due("cell(3, 1)", c.cell(3, 1), 3);
        Check.due("cell(3, 2)", c.cell(3, 2), 4);
    }

    /** "i = -1: how many" */
    private static void iIsMinusOne() {
        CircleCells c = Check.with(4, 4, 0, 0, 2, 2, 4, 0, 0, 4, 2, 0, 0, 2);
        Check.due("cells of three and of four", Check.cellsOf(c), "0 2 3, 0 4 2, 1 5 2 6, 2 4 6, 2 5 3");
        int[] counts = {3, 3, 4, 3, 3};
        for (int k = 0; k < 5; k++) {
            Check.due("cell(" + k + ", -1)", c.cell(k, -1), counts[k]);
        }
    }

    /** "told round, to the left (each next three of them go left)", also over the last one to the first. */
    private static void toldRoundToTheLeft() {
        Check.due("a square crosswise", Check.cellsOf(Check.with(0, 0, 4, 4, 4, 0, 0, 4)), "0 2 1 3");
        Check.due("a square the other way round", Check.cellsOf(Check.with(0, 0, 0, 4, 4, 4, 4, 0)), "0 3 2 1");
        for (int step : new int[] {1, 3, 7, 9, 11, 13, 17, 19}) {
            CircleCells c = Check.roundTheCircle(step, step);
            for (int i = 0; i < 20; i++) {
                Check.holds("left at " + i + " of twenty by " + step,
                    turn(c, c.cell(0, i), c.cell(0, (i + 1) % 20), c.cell(0, (i + 2) % 20)) > 0);
            }
        }
    }

    private static int turn(CircleCells c, int from, int to, int next) {
        int dx = c.where(to, 0) - c.where(from, 0);
        int dy = c.where(to, 1) - c.where(from, 1);
        return dx * (c.where(next, 1) - c.where(from, 1)) - dy * (c.where(next, 0) - c.where(from, 0));
    }

    /** "from the one with the lowest number on" */
    private static void fromTheLowestNumberOn() {
        Check.due("from the upper right corner", Check.cellsOf(Check.with(4, 4, 0, 0, 4, 0, 0, 4)), "0 3 1 2");
        Check.due("from the lower right corner", Check.cellsOf(Check.with(4, 0, 0, 4, 4, 4, 0, 0)), "0 2 1 3");
        CircleCells c = Check.with(40, 40, 0, 0, 0, 4, 4, 4, 4, 0);
        Check.due("the lowest is not site 0", Check.cellsOf(c), "0 2 3, 0 3 4, 1 4 3 2");
    }

    /** "at most 20 sites", all of them in one cell. */
    private static void twentySites() {
        for (int start = 0; start < 20; start++) {
            CircleCells c = Check.roundTheCircle(start, 7);
            Check.due("cell(0, -1) of twenty", c.cell(0, -1), 20);
            // As 7 * 3 is one round and a place, the site at the next place has a number greater by 3.
            for (int i = 0; i < 20; i++) {
                Check.due("cell(0, " + i + ") of twenty", c.cell(0, i), i * 3 % 20);
            }
        }
    }

    /** "cells are numbered 0, 1, .. by their first sites, then their second ones" */
    private static void numberedByFirstSites() {
        Check.due("by their second sites", Check.cellsOf(Check.with(2, 2, 0, 4, 4, 4, 4, 0, 0, 0)),
            "0 1 4, 0 2 1, 0 3 2, 0 4 3");
        Check.due("by their first sites", Check.cellsOf(Check.with(0, 0, 4, 0, 4, 4, 0, 4, 2, 2)),
            "0 1 4, 0 4 3, 1 2 4, 2 3 4");
        Check.due("not by how many they have", Check.cellsOf(Check.with(0, 0, 4, 0, 4, 4, 0, 4, 6, 2)), "0 1 2 3, 1 4 2");
    }

    private static void numberedInAllFigures() {
        for (CircleCells c : new CircleCells[] {Check.mostCells(), Check.with(Check.twentyPlaces())}) {
            int cells = c.cells();
            for (int k = 1; k < cells; k++) {
                int first = c.cell(k, 0) - c.cell(k - 1, 0);
                int second = c.cell(k, 1) - c.cell(k - 1, 1);
                Check.holds("cell " + k + " comes after the one before it", first > 0 || first == 0 && second > 0);
            }
        }
    }

    /** "NoSuchElementException: no such cell" */
    private static void noSuchCell() {
        for (int k : new int[] {-1, -2, 4, 5, 34, 35, 36, Integer.MAX_VALUE, Integer.MIN_VALUE}) {
            for (int i : new int[] {-1, 0, 2}) {
                Check.dueRefused("cell(" + k + ", " + i + ") of 4 cells", NoSuchElementException.class,
                    Check.squareAndMiddle(), c -> c.cell(k, i));
            }
        }
        CircleCells most = Check.mostCells();
        Check.due("cell(34, -1) of 35 cells", most.cell(34, -1), 3);
        Check.dueThrow("cell(35, -1) of 35 cells", NoSuchElementException.class, () -> most.cell(35, -1));
        for (int i : new int[] {-1, 0}) {
            Check.dueThrow("cell(0, " + i + ") of no site", NoSuchElementException.class,
                () -> new CircleCells().cell(0, i));
            Check.dueThrow("cell(0, " + i + ") of a line", NoSuchElementException.class,
                () -> Check.with(0, 0, 1, 1, 2, 2).cell(0, i));
        }
        CircleCells less = Check.with(Check.squareAndMiddle());
        Check.due("cells before one site goes", less.cells(), 4);
        less.remove(4);
        Check.dueThrow("cell(1, 0) that is no more", NoSuchElementException.class, () -> less.cell(1, 0));
    }

    /** "IndexOutOfBoundsException: no such i" */
    private static void noSuchI() {
        for (int i : new int[] {-2, 3, 4, 20, Integer.MAX_VALUE, Integer.MIN_VALUE}) {
            for (int k = 0; k < 4; k++) {
                int cell = k;
                Check.dueRefused("cell(" + k + ", " + i + ") of three sites", IndexOutOfBoundsException.class,
                    Check.squareAndMiddle(), c -> c.cell(cell, i));
            }
        }
        CircleCells four = Check.with(0, 0, 4, 0, 4, 4, 0, 4);
        Check.due("cell(0, 3) of four sites", four.cell(0, 3), 3);
        Check.dueThrow("cell(0, 4) of four sites", IndexOutOfBoundsException.class, () -> four.cell(0, 4));
        four.site(6, 2);
        Check.due("a cell of four and one of three", Check.cellsOf(four), "0 1 2 3, 1 4 2");
        Check.dueThrow("cell(1, 3) behind one of four", IndexOutOfBoundsException.class, () -> four.cell(1, 3));
        Check.dueThrow("cell(0, 4) with one behind it", IndexOutOfBoundsException.class, () -> four.cell(0, 4));
    }

    private static void noSuchIOfTwenty() {
        CircleCells c = Check.roundTheCircle(0, 1);
        Check.due("cell(0, 19) of twenty", c.cell(0, 19), 19);
        Check.dueThrow("cell(0, 20) of twenty", IndexOutOfBoundsException.class, () -> c.cell(0, 20));
        Check.dueThrow("cell(0, -2) of twenty", IndexOutOfBoundsException.class, () -> c.cell(0, -2));
    }

    /** Where both exceptions are due: the one that the document tells first. */
    private static void theCellComesFirst() {
        CircleCells c = Check.with(0, 0, 4, 0, 0, 4);
        for (int i : new int[] {-2, 3, 20}) {
            Check.dueThrow("cell(1, " + i + ")", NoSuchElementException.class, () -> c.cell(1, i));
            Check.dueThrow("cell(-1, " + i + ")", NoSuchElementException.class, () -> c.cell(-1, i));
            Check.dueThrow("cell(0, " + i + ") of none", NoSuchElementException.class, () -> new CircleCells().cell(0, i));
        }
    }
}
