/** Promises 1 to 6: a new object, site, remove, move, clear, where. */
public final class SitesTest {
    public static void main(String[] args) {
        newObject();
        siteNumbers();
        siteRefuses();
        siteRefusesTheTwentyFirst();
        removeShiftsNumbers();
        removeRefuses();
        moveGoesThere();
        moveRefuses();
        clearEmpties();
        whereTells();
        whereRefuses();
        Check.end("SitesTest");
    }

    private static void newObject() {
        CircleCells c = new CircleCells();
        Check.due("new: cells()", c.cells(), 0);
        Check.due("new: hull(-1)", c.hull(-1), 0);
        Check.due("new: around(0, 0)", c.around(0, 0), -1);
        Check.dueThrow("new: where(0, 0)", IllegalArgumentException.class, () -> c.where(0, 0));
        Check.dueThrow("new: nearest(0, 0)", IllegalStateException.class, () -> c.nearest(0, 0));
        CircleCells filled = Check.with(0, 0, 4, 0, 0, 4);
        Check.due("one object's sites are not another's: cells()", new CircleCells().cells(), 0);
        Check.due("the other object: cells()", filled.cells(), 1);
    }

    private static void siteNumbers() {
        CircleCells c = Check.with(-400, -400, 400, 400, -400, 400, 400, -400, 0, 0);
        Check.due("sites at the edges", Check.sitesOf(c, 5), "-400 -400, 400 400, -400 400, 400 -400, 0 0");
        Check.due("cells with 4 corners and the middle", c.cells(), 4);
        CircleCells turned = Check.with(1, 2, 2, 1);
        Check.due("x and y are told apart", Check.sitesOf(turned, 2), "1 2, 2 1");
    }

    private static void siteRefuses() {
        CircleCells c = Check.with(1, 1);
        int[][] bad = {{401, 0}, {-401, 0}, {0, 401}, {0, -401}, {1, 1},
            {Integer.MAX_VALUE, 0}, {Integer.MIN_VALUE, 0}, {0, Integer.MAX_VALUE}, {0, Integer.MIN_VALUE}};
        for (int[] p : bad) {
            Check.dueThrow("site(" + p[0] + ", " + p[1] + ")", IllegalArgumentException.class, () -> c.site(p[0], p[1]));
        }
        Check.due("a refused site takes no number: site(2, 2)", c.site(2, 2), 1);
    }

    private static void siteRefusesTheTwentyFirst() {
        CircleCells c = new CircleCells();
        for (int s = 0; s < 20; s++) {
            Check.due("site " + s, c.site(s, s * s), s);
        }
        Check.dueThrow("site 20", IllegalStateException.class, () -> c.site(0, 1));
        Check.dueThrow("site 20 out of range", IllegalArgumentException.class, () -> c.site(401, 0));
        Check.dueThrow("site 20 at a taken place", IllegalArgumentException.class, () -> c.site(3, 9));
        Check.dueThrow("where(20, 0)", IllegalArgumentException.class, () -> c.where(20, 0));
        c.remove(7);
        Check.due("site after remove", c.site(0, 1), 19);
        Check.due("where(19, 1)", c.where(19, 1), 1);
        Check.due("where(7, 0)", c.where(7, 0), 8);
        Check.due("where(18, 0)", c.where(18, 0), 19);
        Check.dueThrow("site 20 again", IllegalStateException.class, () -> c.site(7, 49));
    }

    private static void removeShiftsNumbers() {
        CircleCells c = Check.with(0, 0, 4, 0, 4, 4, 0, 4, 2, 2);
        Check.due("cells before remove", Check.cellsOf(c), "0 1 4, 0 4 3, 1 2 4, 2 3 4");
        c.remove(1);
        Check.due("sites after remove(1)", Check.sitesOf(c, 4), "0 0, 4 4, 0 4, 2 2");
        Check.due("cells after remove(1)", Check.cellsOf(c), "0 3 2, 1 2 3");
        Check.dueThrow("where(4, 0) after remove", IllegalArgumentException.class, () -> c.where(4, 0));
        c.remove(3);
        Check.due("sites after removing the last", Check.sitesOf(c, 3), "0 0, 4 4, 0 4");
        c.remove(0);
        Check.due("sites after removing the first", Check.sitesOf(c, 2), "4 4, 0 4");
        Check.due("cells of two sites", c.cells(), 0);
        Check.due("a removed place is free: site(0, 0)", c.site(0, 0), 2);
    }

    private static void removeRefuses() {
        CircleCells c = Check.with(0, 0, 4, 0);
        for (int s : new int[] {-1, 2, 20, Integer.MAX_VALUE, Integer.MIN_VALUE}) {
            Check.dueThrow("remove(" + s + ")", IllegalArgumentException.class, () -> c.remove(s));
        }
        Check.due("sites after refused removes", Check.sitesOf(c, 2), "0 0, 4 0");
        Check.dueThrow("remove(0) of none", IllegalArgumentException.class, () -> new CircleCells().remove(0));
    }

    private static void moveGoesThere() {
        CircleCells c = Check.with(0, 0, 4, 0, 0, 4);
        Check.due("centre before move", Check.centreOf(c, 0), "2 2 1");
        c.move(0, 4, 4);
        Check.due("sites after move", Check.sitesOf(c, 3), "4 4, 4 0, 0 4");
        Check.due("cells after move", Check.cellsOf(c), "0 2 1");
        c.move(0, 4, 4);
        Check.due("sites after a move to the own place", Check.sitesOf(c, 3), "4 4, 4 0, 0 4");
        c.move(2, -400, 400);
        Check.due("sites after a move to the edge", Check.sitesOf(c, 3), "4 4, 4 0, -400 400");
        Check.due("the place left is free: site(0, 4)", c.site(0, 4), 3);
    }

    private static void moveRefuses() {
        CircleCells c = Check.with(0, 0, 4, 0, 0, 4);
        int[][] bad = {{-1, 1, 1}, {3, 1, 1}, {Integer.MIN_VALUE, 1, 1}, {0, 401, 0}, {0, -401, 0},
            {0, 0, 401}, {0, 0, -401}, {0, 4, 0}, {1, 0, 0}, {2, 4, 0}, {3, 0, 0}};
        for (int[] m : bad) {
            Check.dueThrow("move(" + m[0] + ", " + m[1] + ", " + m[2] + ")", IllegalArgumentException.class,
                () -> c.move(m[0], m[1], m[2]));
        }
        Check.due("sites after refused moves", Check.sitesOf(c, 3), "0 0, 4 0, 0 4");
    }

    private static void clearEmpties() {
        CircleCells c = Check.with(0, 0, 4, 0, 0, 4);
        Check.due("cells before clear", c.cells(), 1);
        c.clear();
        Check.due("cells after clear", c.cells(), 0);
        Check.due("hull(-1) after clear", c.hull(-1), 0);
        Check.due("around after clear", c.around(1, 1), -1);
        Check.dueThrow("where(0, 0) after clear", IllegalArgumentException.class, () -> c.where(0, 0));
        Check.dueThrow("nearest after clear", IllegalStateException.class, () -> c.nearest(0, 0));
        c.clear();
        Check.due("site after clear", c.site(4, 0), 0);
        Check.due("nearest after clear and site", c.nearest(0, 0), 0);
    }

    private static void whereTells() {
        CircleCells c = Check.with(-3, 7, 5, -11);
        Check.due("where(0, 0)", c.where(0, 0), -3);
        Check.due("where(0, 1)", c.where(0, 1), 7);
        Check.due("where(1, 0)", c.where(1, 0), 5);
        Check.due("where(1, 1)", c.where(1, 1), -11);
    }

    private static void whereRefuses() {
        CircleCells c = Check.with(-3, 7, 5, -11);
        int[][] bad = {{-1, 0}, {2, 0}, {0, -1}, {0, 2}, {2, 2}, {Integer.MAX_VALUE, 1}, {0, Integer.MIN_VALUE}};
        for (int[] w : bad) {
            Check.dueThrow("where(" + w[0] + ", " + w[1] + ")", IllegalArgumentException.class, () -> c.where(w[0], w[1]));
        }
    }
}
