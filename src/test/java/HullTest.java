/** Promise 11: hull. Each test bears the document's sentence that it tells. */
public final class HullTest {
    public static void main(String[] args) {
        siteI();
        howMany();
        noCells();
        toldRoundToTheLeft();
        fromTheLowestNumberOn();
        alsoThoseBetweenCorners();
        notThoseWithin();
        allTwenty();
        noSuchI();
        noSuchIWithoutCells();
        Check.end("HullTest");
    }

    /** "Site i of the hull" */
    private static void siteI() {
        CircleCells c = Check.with(0, 0, 400, 0, 0, 400, -400, 0, 0, -400);
        Check.due("hull(0)", c.hull(0), 1);
        Check.due("hull(1)", c.hull(1), 2);
        Check.due("hull(2)", c.hull(2), 3);
        Check.due("hull(3)", c.hull(3), 4);
    }

    /** "i = -1: how many" */
    private static void howMany() {
        Check.due("hull(-1) of three", Check.with(0, 0, 4, 0, 0, 4).hull(-1), 3);
        Check.due("hull(-1) of four with one within", Check.with(Check.squareAndMiddle()).hull(-1), 4);
        Check.due("hull(-1) of three with 17 within", Check.mostCells().hull(-1), 3);
        Check.due("hull(-1) of twenty in rows", Check.with(Check.twentyPlaces()).hull(-1), 14);
    }

    /** "(0 when there are no cells)" */
    private static void noCells() {
        Check.due("hull(-1) of none", new CircleCells().hull(-1), 0);
        Check.due("hull(-1) of one", Check.with(3, 3).hull(-1), 0);
        Check.due("hull(-1) of two", Check.with(3, 3, 4, 4).hull(-1), 0);
        Check.due("hull(-1) of a line", Check.with(0, 0, 1, 1, 2, 2, 3, 3).hull(-1), 0);
        Check.due("hull(-1) of twenty on a line", Check.row(-399, 0, 42, 0).hull(-1), 0);
        CircleCells c = Check.with(0, 0, 4, 0, 0, 4);
        Check.due("hull(-1) before", c.hull(-1), 3);
        c.move(2, 8, 0);
        Check.due("hull(-1) when they have come to a line", c.hull(-1), 0);
    }

    /** "told round, to the left" */
    private static void toldRoundToTheLeft() {
        Check.due("three added to the left", Check.hullOf(Check.with(0, 0, 4, 0, 0, 4)), "0 1 2");
        Check.due("three added to the right", Check.hullOf(Check.with(0, 0, 0, 4, 4, 0)), "0 2 1");
        Check.due("four added crosswise", Check.hullOf(Check.with(0, 0, 4, 4, 4, 0, 0, 4)), "0 2 1 3");
    }

    /** "from the one with the lowest number on": of those on the hull. */
    private static void fromTheLowestNumberOn() {
        CircleCells c = Check.with(1, 1, 2, 2, 9, 9, 0, 0, 0, 9, 9, 0);
        Check.due("the two lowest lie within", Check.hullOf(c), "2 4 3 5");
        c.move(0, 5, -1);
        Check.due("the lowest has gone to the hull", Check.hullOf(c), "0 5 2 4 3");
        CircleCells last = Check.mostCells();
        last.remove(0);
        last.site(-400, -400);
        Check.due("the lowest is not a far one", Check.hullOf(last), "0 1 19");
    }

    /** "(also those between corners)" */
    private static void alsoThoseBetweenCorners() {
        CircleCells c = Check.with(0, 0, 4, 0, 4, 4, 0, 4, 2, 0, 4, 1, 3, 4, 1, 4, 2, 2, 4, 3);
        Check.due("on three sides of a square", Check.hullOf(c), "0 4 1 5 9 2 6 7 3");
        c.site(0, 2);
        Check.due("between the last corner and the first", Check.hullOf(c), "0 4 1 5 9 2 6 7 3 10");
        CircleCells between = Check.with(2, 0, 0, 0, 4, 0, 2, 3);
        Check.due("the lowest lies between corners", Check.hullOf(between), "0 2 3 1");
        CircleCells line = Check.with(0, 3, 1, 0, 2, 0, 3, 0, 4, 0);
        Check.due("a line and one more", Check.hullOf(line), "0 1 2 3 4");
    }

    private static void notThoseWithin() {
        CircleCells line = Check.with(0, 3, 1, 0, 2, 1, 3, 0, 4, 0);
        Check.due("one step within", Check.hullOf(line), "0 1 3 4");
        CircleCells flat = Check.with(-400, 0, 400, 0, 0, 1, 0, -1, 200, 0);
        Check.due("within a flat one", Check.hullOf(flat), "0 3 1 2");
    }

    /** "at most 20 sites", all of them on the hull. */
    private static void allTwenty() {
        CircleCells c = Check.roundTheCircle(0, 7);
        Check.due("hull(-1) of twenty on a circle", c.hull(-1), 20);
        for (int i = 0; i < 20; i++) {
            Check.due("hull(" + i + ") of twenty on a circle", c.hull(i), i * 3 % 20);
        }
        Check.dueThrow("hull(20) of twenty", IndexOutOfBoundsException.class, () -> c.hull(20));
        CircleCells row = Check.row(-399, 0, 42, 0);
        row.move(0, 0, 400);
        Check.due("hull(-1) of nineteen on a line and one more", row.hull(-1), 20);
        Check.due("its last", row.hull(19), 19);
    }

    /** "IndexOutOfBoundsException: no such i" */
    private static void noSuchI() {
        for (int i : new int[] {-2, 4, 5, 20, Integer.MAX_VALUE, Integer.MIN_VALUE}) {
            Check.dueRefused("hull(" + i + ") of 4 with one within", IndexOutOfBoundsException.class,
                Check.squareAndMiddle(), c -> c.hull(i));
        }
        Check.dueThrow("hull(3) of three with 17 within", IndexOutOfBoundsException.class, () -> Check.mostCells().hull(3));
    }

    private static void noSuchIWithoutCells() {
        for (int i : new int[] {-2, 0, 1}) {
            Check.dueThrow("hull(" + i + ") of none", IndexOutOfBoundsException.class, () -> new CircleCells().hull(i));
            Check.dueThrow("hull(" + i + ") of a line", IndexOutOfBoundsException.class,
                () -> Check.with(0, 0, 1, 1, 2, 2).hull(i));
        }
        CircleCells c = Check.with(0, 0, 4, 0, 0, 4);
        Check.due("hull(0) before clear()", c.hull(0), 0);
        c.clear();
        Check.dueThrow("hull(0) after clear()", IndexOutOfBoundsException.class, () -> c.hull(0));
    }
}
