import java.util.NoSuchElementException;

/** Promise 1: a new object. Each test bears the document's sentence that it tells. */
public final class NewObjectTest {
    public static void main(String[] args) {
        noSites();
        noCellsAndNoHull();
        numberedFromZero();
        eachObjectHasItsOwnSites();
        Check.end("NewObjectTest");
    }

    /** "No sites." */
    private static void noSites() {
        CircleCells c = new CircleCells();
        Check.dueThrow("new: where(0, 0)", IllegalArgumentException.class, () -> c.where(0, 0));
        Check.dueThrow("new: remove(0)", IllegalArgumentException.class, () -> c.remove(0));
        Check.dueThrow("new: move(0, 1, 1)", IllegalArgumentException.class, () -> c.move(0, 1, 1));
        Check.dueThrow("new: nearest(0, 0)", IllegalStateException.class, () -> c.nearest(0, 0));
        c.clear();
        Check.dueThrow("new, clear(): where(0, 0)", IllegalArgumentException.class, () -> c.where(0, 0));
    }

    /** "No sites.", so nothing is made of them; each question is the first one of its object. */
    private static void noCellsAndNoHull() {
        Check.due("new: cells()", new CircleCells().cells(), 0);
        Check.due("new: hull(-1)", new CircleCells().hull(-1), 0);
        Check.due("new: around(0, 0)", new CircleCells().around(0, 0), -1);
        Check.dueThrow("new: hull(0)", IndexOutOfBoundsException.class, () -> new CircleCells().hull(0));
        Check.dueThrow("new: cell(0, -1)", NoSuchElementException.class, () -> new CircleCells().cell(0, -1));
        Check.dueThrow("new: beside(0, 0)", NoSuchElementException.class, () -> new CircleCells().beside(0, 0));
        Check.dueThrow("new: centre(0, 0)", NoSuchElementException.class, () -> new CircleCells().centre(0, 0));
    }

    /** "numbered 0, 1, .." */
    private static void numberedFromZero() {
        Check.due("new: site(0, 0)", new CircleCells().site(0, 0), 0);
        Check.due("new: site(-400, 400)", new CircleCells().site(-400, 400), 0);
    }

    private static void eachObjectHasItsOwnSites() {
        CircleCells filled = Check.with(0, 0, 4, 0, 0, 4);
        Check.due("filled: cells()", filled.cells(), 1);
        CircleCells fresh = new CircleCells();
        Check.due("a new one beside it: cells()", fresh.cells(), 0);
        Check.due("a new one beside it: site(0, 0)", fresh.site(0, 0), 0);
        fresh.clear();
        Check.due("filled, after the other's clear(): cells", Check.cellsOf(filled), "0 1 2");
        Check.due("filled, after the other's clear(): sites", Check.sitesOf(filled, 3), "0 0, 4 0, 0 4");
    }
}
