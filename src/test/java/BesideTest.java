import java.util.NoSuchElementException;

/** Promise 9: beside. Each test bears the document's sentence that it tells. */
public final class BesideTest {
    public static void main(String[] args) {
        theCellBesideSideI();
        fromTheLastOneToTheFirst();
        nothing();
        betweenCorners();
        eachBesideTheOther();
        noSuchCell();
        noSuchSide();
        theCellComesFirst();
        Check.end("BesideTest");
    }

    /** "The cell beside side i of a cell (from its site i on)" */
    private static void theCellBesideSideI() {
        CircleCells c = Check.with(Check.squareAndMiddle());
        Check.due("cells", Check.cellsOf(c), "0 1 4, 0 4 3, 1 2 4, 2 3 4");
        Check.due("beside", Check.besidesOf(c), "-1 2 1, 0 3 -1, -1 3 0, -1 1 2");
        CircleCells mixed = Check.with(0, 0, 4, 0, 4, 4, 0, 4, 6, 2);
        Check.due("beside a cell of four", Check.besidesOf(mixed), "-1 1 -1 -1, -1 -1 0");
    }

    /** "(from the last one to the first)" */
    private static void fromTheLastOneToTheFirst() {
        CircleCells three = Check.with(0, 0, 4, 0, 0, 4, -3, -3);
        Check.due("cells over the last side of three", Check.cellsOf(three), "0 1 2, 0 2 3, 0 3 1");
        Check.due("beside(0, 2)", three.beside(0, 2), 1);
        Check.due("beside(0, 0)", three.beside(0, 0), 2);
        CircleCells four = Check.with(0, 0, 4, 0, 4, 4, 0, 4, -2, 2);
        Check.due("cells over the last side of four", Check.cellsOf(four), "0 1 2 3, 0 3 4");
        Check.due("beside(0, 3)", four.beside(0, 3), 1);
        Check.due("beside(1, 0)", four.beside(1, 0), 0);
        Check.due("beside(1, 2)", four.beside(1, 2), -1);
    }

    /** "-1 for nothing" */
    private static void nothing() {
        Check.due("beside one cell of three", Check.besidesOf(Check.with(0, 0, 4, 0, 0, 4)), "-1 -1 -1");
        CircleCells c = Check.roundTheCircle(0, 3);
        for (int i = 0; i < 20; i++) {
            Check.due("beside(0, " + i + ") of one cell of twenty", c.beside(0, i), -1);
        }
    }

    /** The hull's sides between corners have nothing beside them either. */
    private static void betweenCorners() {
        CircleCells line = Check.with(0, 0, 1, 0, 2, 0, 1, 3);
        Check.due("cells over a line", Check.cellsOf(line), "0 1 3, 1 2 3");
        Check.due("beside over a line", Check.besidesOf(line), "-1 1 -1, -1 -1 0");
    }

    /** "the other cell that has a side between the same two sites" */
    private static void eachBesideTheOther() {
        for (CircleCells c : new CircleCells[] {Check.mostCells(), Check.with(Check.twentyPlaces())}) {
            String[] cells = Check.cellsOf(c).split(", ");
            String[] besides = Check.besidesOf(c).split(", ");
            int without = 0;
            for (int k = 0; k < cells.length; k++) {
                String[] sites = cells[k].split(" ");
                String[] beside = besides[k].split(" ");
                for (int i = 0; i < sites.length; i++) {
                    int want = cellWithSide(cells, sites[(i + 1) % sites.length], sites[i]);
                    Check.due("beside(" + k + ", " + i + ")", Integer.parseInt(beside[i]), want);
                    without += want < 0 ? 1 : 0;
                }
            }
            Check.due("sides with nothing beside them", without, c.hull(-1));
        }
    }

    private static int cellWithSide(String[] cells, String from, String to) {
        for (int k = 0; k < cells.length; k++) {
            String round = " " + cells[k] + " " + cells[k].split(" ")[0] + " ";
            if (round.contains(" " + from + " " + to + " ")) {
                return k;
            }
        }
        return -1;
    }

    /** "NoSuchElementException: no such cell" */
    private static void noSuchCell() {
        for (int k : new int[] {-1, -2, 4, 5, 35, Integer.MAX_VALUE, Integer.MIN_VALUE}) {
            Check.dueRefused("beside(" + k + ", 0) of 4 cells", NoSuchElementException.class, Check.squareAndMiddle(),
                c -> c.beside(k, 0));
        }
        CircleCells most = Check.mostCells();
        Check.dueThrow("beside(35, 0) of 35 cells", NoSuchElementException.class, () -> most.beside(35, 0));
        Check.dueThrow("beside(0, 0) of no site", NoSuchElementException.class, () -> new CircleCells().beside(0, 0));
        Check.dueThrow("beside(0, 0) of a line", NoSuchElementException.class,
            () -> Check.with(0, 0, 1, 1, 2, 2).beside(0, 0));
    }

    /** "IndexOutOfBoundsException: no such side": -1 is none here. */
    private static void noSuchSide() {
        for (int i : new int[] {-1, -2, 3, 4, 20, Integer.MAX_VALUE, Integer.MIN_VALUE}) {
            for (int k = 0; k < 4; k++) {
                int cell = k;
                Check.dueRefused("beside(" + k + ", " + i + ") of three sites", IndexOutOfBoundsException.class,
                    Check.squareAndMiddle(), c -> c.beside(cell, i));
            }
        }
        CircleCells four = Check.with(0, 0, 4, 0, 4, 4, 0, 4, 6, 2);
        Check.due("beside(0, 3) of four sites", four.beside(0, 3), -1);
        Check.dueThrow("beside(0, 4) of four sites", IndexOutOfBoundsException.class, () -> four.beside(0, 4));
        Check.dueThrow("beside(1, 3) behind one of four", IndexOutOfBoundsException.class, () -> four.beside(1, 3));
        CircleCells twenty = Check.roundTheCircle(0, 1);
        Check.due("beside(0, 19) of twenty", twenty.beside(0, 19), -1);
        Check.dueThrow("beside(0, 20) of twenty", IndexOutOfBoundsException.class, () -> twenty.beside(0, 20));
    }

    /** Where both exceptions are due: the one that the document tells first. */
    private static void theCellComesFirst() {
        CircleCells c = Check.with(0, 0, 4, 0, 0, 4);
        for (int i : new int[] {-1, 3, 20}) {
            Check.dueThrow("beside(1, " + i + ")", NoSuchElementException.class, () -> c.beside(1, i));
            Check.dueThrow("beside(-1, " + i + ")", NoSuchElementException.class, () -> c.beside(-1, i));
            Check.dueThrow("beside(0, " + i + ") of none", NoSuchElementException.class,
                () -> new CircleCells().beside(0, i));
        }
    }
}
