/** Promise 12: around. Each test bears the document's sentence that it tells. */
public final class AroundTest {
    public static void main(String[] args) {
        theCellInWhichAPlaceLies();
        theLowestNumber();
        onALineWithASide();
        none();
        oneStepOut();
        noneWithoutCells();
        fromMinus400To400();
        notFromMinus400To400();
        theLastOfThirtyFive();
        Check.end("AroundTest");
    }

    private static CircleCells square() {
        return Check.with(0, 0, 8, 0, 8, 8, 0, 8, 4, 4);
    }

    private static void theCellInWhichAPlaceLies() {
        CircleCells c = square();
        Check.due("cells", Check.cellsOf(c), "0 1 4, 0 4 3, 1 2 4, 2 3 4");
        Check.due("around below", c.around(4, 1), 0);
        Check.due("around left", c.around(1, 4), 1);
        Check.due("around right", c.around(7, 4), 2);
        Check.due("around above", c.around(4, 7), 3);
        Check.due("around in a cell of four", Check.with(0, 0, 4, 0, 4, 4, 0, 4).around(1, 3), 0);
        Check.due("within the circle, not in the cell", Check.with(0, 0, 8, 0, 0, 8).around(7, 7), -1);
    }

    /** "The cell with the lowest number in which a place lies" */
    private static void theLowestNumber() {
        CircleCells c = square();
        Check.due("on the side of 0 and 1", c.around(2, 2), 0);
        Check.due("on the side of 0 and 2", c.around(6, 2), 0);
        Check.due("on the side of 1 and 3", c.around(2, 6), 1);
        Check.due("on the side of 2 and 3", c.around(6, 6), 2);
        Check.due("on the site of all", c.around(4, 4), 0);
        Check.due("on the corner of 0 and 2", c.around(8, 0), 0);
        Check.due("on the corner of 2 and 3", c.around(8, 8), 2);
        Check.due("on the corner of 1 and 3", c.around(0, 8), 1);
    }

    /** "goes left with, or is on a line with, the two sites of each of its sides" */
    private static void onALineWithASide() {
        CircleCells c = square();
        Check.due("on the hull's lower side", c.around(3, 0), 0);
        Check.due("on the hull's left side", c.around(0, 5), 1);
        Check.due("on the hull's right side", c.around(8, 1), 2);
        Check.due("on the hull's upper side", c.around(3, 8), 3);
        CircleCells one = Check.with(0, 0, 8, 0, 0, 8);
        Check.due("on its first side", one.around(4, 0), 0);
        Check.due("on its second side", one.around(4, 4), 0);
        Check.due("on its last side", one.around(0, 4), 0);
        Check.due("on its last site", one.around(0, 8), 0);
    }

    /** "-1 when there is none" */
    private static void none() {
        CircleCells c = square();
        Check.due("around outside", c.around(20, 4), -1);
        Check.due("around far away", c.around(-400, 400), -1);
        Check.due("on the line of the lower side, outside", c.around(9, 0), -1);
        Check.due("on the line of the upper side, outside", c.around(9, 8), -1);
        Check.due("on the line of a diagonal, outside", c.around(-1, -1), -1);
        Check.due("on the line of a diagonal, outside above", c.around(9, 9), -1);
    }

    private static void oneStepOut() {
        CircleCells one = Check.with(0, 0, 8, 0, 0, 8);
        Check.due("beyond its first side", one.around(4, -1), -1);
        Check.due("beyond its second side", one.around(4, 5), -1);
        Check.due("beyond its last side", one.around(-1, 4), -1);
        CircleCells flat = Check.with(-400, -400, 400, 399, -400, 400);
        Check.due("left by 1 of the long side", flat.around(-399, -399), 0);
        Check.due("right by 1 of the long side", flat.around(399, 398), -1);
    }

    private static void noneWithoutCells() {
        Check.due("around of none", new CircleCells().around(0, 0), -1);
        Check.due("around on one site", Check.with(3, 3).around(3, 3), -1);
        Check.due("around between two sites", Check.with(0, 0, 2, 2).around(1, 1), -1);
        Check.due("around on a line", Check.with(0, 0, 1, 1, 2, 2).around(1, 1), -1);
    }

    /** "from -400 to 400": the outermost are answered. */
    private static void fromMinus400To400() {
        CircleCells edge = Check.with(-400, -400, 400, -400, 400, 400, -400, 400);
        CircleCells small = Check.with(0, 0, 1, 0, 0, 1);
        for (int[] p : Check.edges()) {
            Check.due("around(" + p[0] + ", " + p[1] + ") in all", edge.around(p[0], p[1]), 0);
            Check.due("around(" + p[0] + ", " + p[1] + ") far away", small.around(p[0], p[1]), -1);
        }
    }

    /** "IllegalArgumentException: x or y is not from -400 to 400", also when there are no cells. */
    private static void notFromMinus400To400() {
        for (int[] p : Check.outside()) {
            String call = "around(" + p[0] + ", " + p[1] + ")";
            Check.dueRefused(call, IllegalArgumentException.class, Check.squareAndMiddle(), c -> c.around(p[0], p[1]));
            Check.dueRefused(call + " of none", IllegalArgumentException.class, new int[0], c -> c.around(p[0], p[1]));
            Check.dueThrow(call + " of a line", IllegalArgumentException.class,
                () -> Check.with(0, 0, 1, 1, 2, 2).around(p[0], p[1]));
        }
    }

    private static void theLastOfThirtyFive() {
        CircleCells c = Check.mostCells();
        boolean[] seen = new boolean[35];
        for (int k = 0; k < 35; k++) {
            int x = 0;
            int y = 0;
            for (int i = 0; i < 3; i++) {
                int site = c.cell(k, i);
                x += c.where(site, 0);
                y += c.where(site, 1);
            }
            int found = c.around(Math.floorDiv(x, 3), Math.floorDiv(y, 3));
            Check.holds("around in the middle of cell " + k + " finds one", found >= 0 && found < 35);
            if (found >= 0 && found < 35) {
                seen[found] = true;
            }
        }
        Check.holds("the last of 35 is found", seen[34]);
        Check.due("around(400, 400) of 35", c.around(400, 400), -1);
    }
}
