/** Promise 11: hull. */
public final class HullTest {
    public static void main(String[] args) {
        withoutCells();
        corners();
        betweenCorners();
        fromTheLowest();
        refuses();
        Check.end("HullTest");
    }

    private static void withoutCells() {
        Check.due("hull(-1) of none", new CircleCells().hull(-1), 0);
        Check.due("hull(-1) of one", Check.with(3, 3).hull(-1), 0);
        Check.due("hull(-1) of a line", Check.with(0, 0, 1, 1, 2, 2, 3, 3).hull(-1), 0);
        Check.dueThrow("hull(0) of a line", IndexOutOfBoundsException.class, () -> Check.with(0, 0, 1, 1, 2, 2).hull(0));
    }

    private static void corners() {
        Check.due("three told left", Check.hullOf(Check.with(0, 0, 4, 0, 0, 4)), "0 1 2");
        Check.due("three told right", Check.hullOf(Check.with(0, 0, 0, 4, 4, 0)), "0 2 1");
        CircleCells c = Check.with(0, 0, 400, 0, 0, 400, -400, 0, 0, -400);
        Check.due("the middle is not on it", Check.hullOf(c), "1 2 3 4");
        Check.due("hull(-1)", c.hull(-1), 4);
        Check.due("hull(0)", c.hull(0), 1);
    }

    private static void betweenCorners() {
        CircleCells c = Check.with(0, 0, 4, 0, 4, 4, 0, 4, 2, 0, 4, 1, 3, 4, 1, 4, 2, 2, 4, 3);
        Check.due("also those between corners", Check.hullOf(c), "0 4 1 5 9 2 6 7 3");
        CircleCells line = Check.with(0, 3, 1, 0, 2, 0, 3, 0, 4, 0);
        Check.due("a line and one more", Check.hullOf(line), "0 1 2 3 4");
        line.move(2, 2, 1);
        Check.due("one goes within", Check.hullOf(line), "0 1 3 4");
        line.remove(0);
        Check.due("numbers after remove", Check.hullOf(line), "0 2 3 1");
        CircleCells flat = Check.with(-400, 0, 400, 0, 0, 1, 0, -1, 200, 0);
        Check.due("a flat one", Check.hullOf(flat), "0 3 1 2");
    }

    private static void fromTheLowest() {
        CircleCells c = Check.with(1, 1, 2, 2, 9, 9, 0, 0, 0, 9, 9, 0);
        Check.due("from the lowest on the hull", Check.hullOf(c), "2 4 3 5");
    }

    private static void refuses() {
        CircleCells c = Check.with(0, 0, 4, 0, 0, 4, 1, 1);
        for (int i : new int[] {-2, 3, 4, 20, Integer.MAX_VALUE, Integer.MIN_VALUE}) {
            Check.dueThrow("hull(" + i + ")", IndexOutOfBoundsException.class, () -> c.hull(i));
        }
    }
}
