import java.util.HashSet;
import java.util.Set;

/** Promise 7: cells, and what the document calls a cell. Each test bears the document's sentence that it tells. */
public final class CellsTest {
    public static void main(String[] args) {
        howMany();
        threeSitesOrMore();
        notOnALine();
        allSitesOnALine();
        oneStepOffTheLine();
        leftOrRightByOne();
        withinStrictly();
        noneWithin();
        noOtherOneOnIt();
        manyOnOneCircle();
        theMostCells();
        theyCoverTheHull();
        onlyTheirSidesInCommon();
        Check.end("CellsTest");
    }

    /** "How many cells there are." */
    private static void howMany() {
        CircleCells c = Check.with(0, 0, 4, 0, 4, 4, 0, 4);
        Check.due("cells of a square", c.cells(), 1);
        c.site(2, 2);
        Check.due("cells of a square with its middle", c.cells(), 4);
        Check.due("asked once more", c.cells(), 4);
        c.remove(4);
        Check.due("cells without the middle again", c.cells(), 1);
    }

    /** "A CELL is three sites or more" */
    private static void threeSitesOrMore() {
        Check.due("cells of no site", new CircleCells().cells(), 0);
        Check.due("cells of one site", Check.with(0, 0).cells(), 0);
        Check.due("cells of two sites", Check.with(0, 0, 1, 0).cells(), 0);
        Check.due("cells of three sites", Check.with(0, 0, 1, 0, 0, 1).cells(), 1);
        Check.due("cells of the three farthest", Check.with(-400, -400, 400, -400, 0, 400).cells(), 1);
    }

    /** "not on a line": three on a line are no cell, also when others lie beside them. */
    private static void notOnALine() {
        CircleCells c = Check.with(0, 0, 1, 0, 2, 0, 1, 3);
        Check.due("three on a line and one more", Check.cellsOf(c), "0 1 3, 1 2 3");
        CircleCells both = Check.with(-2, 0, 0, 0, 2, 0, 0, 3, 0, -3);
        Check.due("a line with one on each hand", Check.cellsOf(both), "0 1 3, 0 4 1, 1 2 3, 1 4 2");
    }

    /** "When all sites are on a line there are none." */
    private static void allSitesOnALine() {
        Check.due("three on a slanting line", Check.with(0, 0, 3, 2, -6, -4).cells(), 0);
        Check.due("from corner to corner", Check.with(-400, -400, 400, 400, 0, 0).cells(), 0);
        Check.due("from corner to corner, the other way", Check.with(-400, 400, 0, 0, 400, -400).cells(), 0);
        Check.due("twenty on a level line", Check.row(-399, 400, 42, 0).cells(), 0);
        Check.due("twenty on an upright line", Check.row(-400, 398, 0, -42).cells(), 0);
        Check.due("twenty on a slanting line", Check.row(-400, 399, 42, -41).cells(), 0);
        Check.due("in no order", Check.with(3, 6, 0, 0, 1, 2, -2, -4, 2, 4).cells(), 0);
    }

    private static void oneStepOffTheLine() {
        CircleCells c = Check.row(-399, 0, 42, 0);
        c.move(19, 399, 1);
        Check.due("one of twenty is off the line: cells", c.cells(), 18);
        c.move(19, 399, 0);
        Check.due("all on the line again", c.cells(), 0);
        CircleCells long3 = Check.with(-400, -400, 400, 400, 0, 0);
        long3.site(0, 1);
        Check.due("one beside the long line", Check.cellsOf(long3), "0 2 3, 1 3 2");
    }

    /** "go LEFT when .. is above 0, RIGHT when it is below, and are ON A LINE when it is 0" */
    private static void leftOrRightByOne() {
        CircleCells c = Check.with(-400, -400, 400, 399, -399, -399);
        Check.due("left by 1", Check.cellsOf(c), "0 1 2");
        c.move(2, 399, 398);
        Check.due("right by 1", Check.cellsOf(c), "0 2 1");
        c.move(1, 400, 0);
        c.move(2, 0, -200);
        Check.due("on a line", Check.cellsOf(c), "");
        Check.due("left", Check.cellsOf(Check.with(0, 0, 4, 0, 0, 4)), "0 1 2");
        Check.due("right", Check.cellsOf(Check.with(0, 0, 0, 4, 4, 0)), "0 2 1");
    }

    /** "within which (strictly) there is no site": one on the circle is not within it. */
    private static void withinStrictly() {
        CircleCells c = Check.with(-400, 0, 0, -400, 400, 0, 0, 400, 394, 69);
        Check.due("within by 3 of 160000", Check.cellsOf(c), "0 1 4, 0 4 3, 1 2 4");
        c.move(4, 400, 1);
        Check.due("outside by 1 of 160000", Check.cellsOf(c), "0 1 2 3, 2 4 3");
        c.move(4, 240, 320);
        Check.due("on the circle", Check.cellsOf(c), "0 1 2 4 3");
        CircleCells small = Check.with(0, 0, 1, 0, 0, 1, 1, 1);
        Check.due("on the least circle", Check.cellsOf(small), "0 1 3 2");
        small.move(3, 2, 1);
        Check.due("outside the least circle", Check.cellsOf(small), "0 1 2, 1 3 2");
    }

    private static void noneWithin() {
        CircleCells flat = Check.with(0, 0, 10, 0, 5, 3, 5, -3);
        Check.due("the short diagonal divides", Check.cellsOf(flat), "0 3 2, 1 2 3");
        CircleCells tall = Check.with(0, 0, 10, 0, 5, 8, 5, -8);
        Check.due("the other diagonal divides", Check.cellsOf(tall), "0 1 2, 0 3 1");
    }

    /** "and on which there is no other one": all that lie on the circle are in the cell. */
    private static void noOtherOneOnIt() {
        Check.due("four", Check.with(0, 0, 4, 0, 4, 4, 0, 4).cell(0, -1), 4);
        CircleCells c = Check.with(5, 0, 0, 5, -5, 0, 0, -5, 3, 4, 4, 3, -3, 4, -4, 3);
        Check.due("eight on one circle", c.cells(), 1);
        Check.due("their cell", Check.cellsOf(c), "0 5 4 1 6 7 2 3");
        c.remove(5);
        Check.due("seven on one circle", Check.cellsOf(c), "0 4 1 5 6 2 3");
    }

    private static void manyOnOneCircle() {
        CircleCells c = Check.roundTheCircle(0, 3);
        Check.due("cells of twenty on a circle", c.cells(), 1);
        Check.due("its sites", c.cell(0, -1), 20);
        c.move(19, 0, 0);
        Check.due("cells with one of them in the middle", c.cells(), 19);
    }

    /** "at most 20 sites": there are no more than 35 cells then. */
    private static void theMostCells() {
        CircleCells c = Check.mostCells();
        Check.due("the most cells", c.cells(), 35);
        int sides = 0;
        for (int k = 0; k < 35; k++) {
            sides += c.cell(k, -1);
        }
        Check.due("their sides", sides, 105);
        Check.due("centre of the last", c.centre(34, 2) > 0 ? 1 : 0, 1);
    }

    private static CircleCells[] figures() {
        return new CircleCells[] {Check.with(0, 0, 4, 0, 0, 4), Check.with(Check.squareAndMiddle()),
            Check.with(Check.twentyPlaces()), Check.mostCells(), Check.roundTheCircle(7, 9),
            Check.with(-400, -400, 400, -400, 400, 400, -400, 400, 399, 0, -399, 1, 0, 399, 1, -399)};
    }

    /** "The cells cover the HULL": what they cover has the size of what lies within the hull. */
    private static void theyCoverTheHull() {
        for (CircleCells c : figures()) {
            int[][] places = placesOf(c);
            long covered = 0;
            int cells = c.cells();
            for (int k = 0; k < cells; k++) {
                covered += doubleSize(places, sitesOfCell(c, k));
            }
            int[] hull = new int[c.hull(-1)];
            for (int i = 0; i < hull.length; i++) {
                hull[i] = c.hull(i);
            }
            Check.due("what " + cells + " cells cover", covered, doubleSize(places, hull));
        }
    }

    /** "and have only their sides in common": no two have a side the same way round, and each covers something. */
    private static void onlyTheirSidesInCommon() {
        for (CircleCells c : figures()) {
            int[][] places = placesOf(c);
            Set<String> seen = new HashSet<>();
            int cells = c.cells();
            for (int k = 0; k < cells; k++) {
                int[] sites = sitesOfCell(c, k);
                Check.holds("cell " + k + " covers something", doubleSize(places, sites) > 0);
                for (int i = 0; i < sites.length; i++) {
                    String side = sites[i] + " to " + sites[(i + 1) % sites.length];
                    Check.holds("the side " + side + " is of one cell only", seen.add(side));
                }
            }
        }
    }

    private static int[][] placesOf(CircleCells c) {
        int[][] places = new int[Check.siteCount(c)][];
        for (int s = 0; s < places.length; s++) {
            places[s] = new int[] {c.where(s, 0), c.where(s, 1)};
        }
        return places;
    }

    private static int[] sitesOfCell(CircleCells c, int cell) {
        int[] sites = new int[c.cell(cell, -1)];
        for (int i = 0; i < sites.length; i++) {
            sites[i] = c.cell(cell, i);
        }
        return sites;
    }

    private static long doubleSize(int[][] places, int[] round) {
        long sum = 0;
        for (int i = 0; i < round.length; i++) {
            int[] from = places[round[i]];
            int[] to = places[round[(i + 1) % round.length]];
            sum += (long) from[0] * to[1] - (long) from[1] * to[0];
        }
        return sum;
    }
}
