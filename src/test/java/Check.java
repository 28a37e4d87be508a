/** What the tests share: counts the answers that are not as due, and makes objects with sites. */
final class Check {
    private static int wrong = 0;

    interface Call {
        void run();
    }

    interface Use {
        void run(CircleCells c);
    }

    private Check() {
    }

    static void due(String call, long got, long want) {
        if (got != want) {
            report(call + " answered " + got + ", due is " + want);
        }
    }

    static void due(String call, String got, String want) {
        if (!got.equals(want)) {
            report(call + " answered " + got + ", due is " + want);
        }
    }

    static void holds(String what, boolean so) {
        if (!so) {
            report(what + " does not hold");
        }
    }

    /** The very exception, not one that is a kind of it. */
    static void dueThrow(String name, Class<? extends RuntimeException> want, Call call) {
        due(name + " throws", thrownBy(call), want.getName());
    }

    private static String thrownBy(Call call) {
        try {
            call.run();
        } catch (RuntimeException e) {
            return e.getClass().getName();
        }
        return "nothing";
    }

    /**
     * The call throws what is due and leaves the object as it was, whether the
     * cells had been asked for before or not.
     */
    static void dueRefused(String name, Class<? extends RuntimeException> want, int[] places, Use use) {
        String before = stateOf(with(places));
        CircleCells unasked = with(places);
        dueThrow(name, want, () -> use.run(unasked));
        due("all answers after the refused " + name, stateOf(unasked), before);
        CircleCells asked = with(places);
        asked.cells();
        dueThrow(name + " behind cells()", want, () -> use.run(asked));
        due("all answers after cells() and the refused " + name, stateOf(asked), before);
    }

    static void report(String text) {
        wrong++;
        System.out.println(text);
    }

    /** A new object with the sites x0, y0, x1, y1, .. */
    static CircleCells with(int... places) {
        CircleCells made = new CircleCells();
        for (int i = 0; i < places.length; i += 2) {
            due("site(" + places[i] + ", " + places[i + 1] + ")", made.site(places[i], places[i + 1]), i / 2);
        }
        return made;
    }

    /** The four corners of a square and its middle: cells "0 1 4, 0 4 3, 1 2 4, 2 3 4". */
    static int[] squareAndMiddle() {
        return new int[] {0, 0, 4, 0, 4, 4, 0, 4, 2, 2};
    }

    /** Places with an x or a y just beyond the range, far beyond it, or in it again if an int were cut short. */
    static int[][] outside() {
        return new int[][] {{401, 0}, {-401, 0}, {0, 401}, {0, -401}, {401, 400}, {400, 401}, {-401, -400}, {-400, -401},
            {401, -401}, {65536, 0}, {0, -65536}, {Integer.MAX_VALUE, 0}, {Integer.MIN_VALUE, 0},
            {0, Integer.MAX_VALUE}, {0, Integer.MIN_VALUE}, {Integer.MIN_VALUE, Integer.MIN_VALUE}};
    }

    /** The places farthest out that are still in the range. */
    static int[][] edges() {
        return new int[][] {{400, 0}, {-400, 0}, {0, 400}, {0, -400}, {400, 400}, {-400, 400}, {400, -400}, {-400, -400}};
    }

    /** Places x0, y0, x1, y1, .. of twenty sites, some on common circles and some on the hull between corners. */
    static int[] twentyPlaces() {
        int[] places = new int[40];
        for (int s = 0; s < 20; s++) {
            places[2 * s] = s % 5 * 3;
            places[2 * s + 1] = s / 5 * 3 + (s == 7 ? 1 : 0);
        }
        return places;
    }

    /** Twenty places round a circle with the radius 65, to the left, from (65, 0) on. */
    static int[][] twentyOnACircle() {
        return new int[][] {{65, 0}, {63, 16}, {60, 25}, {56, 33}, {52, 39}, {39, 52}, {33, 56}, {25, 60}, {16, 63}, {0, 65},
            {-16, 63}, {-25, 60}, {-33, 56}, {-39, 52}, {-52, 39}, {-56, 33}, {-60, 25}, {-63, 16}, {-65, 0}, {0, -65}};
    }

    /** Sites that are added in another order than they lie round: from a start on, each so many places further. */
    static CircleCells roundTheCircle(int start, int step) {
        CircleCells made = new CircleCells();
        int[][] round = twentyOnACircle();
        for (int s = 0; s < 20; s++) {
            int[] at = round[(start + s * step) % 20];
            due("site " + s + " on the circle", made.site(at[0], at[1]), s);
        }
        return made;
    }

    /** Twenty sites with a hull of three: the most cells that there can be. */
    static CircleCells mostCells() {
        CircleCells made = with(-400, -400, 400, -399, 3, 400);
        for (int s = 3; s < 20; s++) {
            due("site " + s + " of the most cells", made.site(s * 7 - 60, s * s % 37 * 5 - 40), s);
        }
        return made;
    }

    /** Twenty sites in a row from (x, y) on, each (stepX, stepY) further. */
    static CircleCells row(int x, int y, int stepX, int stepY) {
        CircleCells made = new CircleCells();
        for (int s = 0; s < 20; s++) {
            due("site " + s + " of a row", made.site(x + s * stepX, y + s * stepY), s);
        }
        return made;
    }

    /** Every answer that has no place as its argument; with 20 sites and 35 cells that is some 400 calls. */
    static String stateOf(CircleCells c) {
        StringBuilder text = new StringBuilder("sites " + sitesOf(c, siteCount(c)));
        text.append("; cells ").append(cellsOf(c)).append("; beside ").append(besidesOf(c)).append("; centres");
        int cells = c.cells();
        for (int k = 0; k < cells; k++) {
            text.append(k == 0 ? " " : ", ").append(centreOf(c, k));
        }
        return text.append("; hull ").append(hullOf(c)).toString();
    }

    /** How many sites there are, by the first number of which there is none. */
    static int siteCount(CircleCells c) {
        int count = 0;
        while (count <= 20 && hasSite(c, count)) {
            count++;
        }
        return count;
    }

    private static boolean hasSite(CircleCells c, int site) {
        try {
            c.where(site, 0);
            return true;
        } catch (IllegalArgumentException e) {
            return false;
        }
    }

    /** All cells as "0 1 2, 0 2 3". */
    static String cellsOf(CircleCells c) {
        StringBuilder text = new StringBuilder();
        int cells = c.cells();
        for (int k = 0; k < cells; k++) {
            text.append(k == 0 ? "" : ", ");
            int count = c.cell(k, -1);
            for (int i = 0; i < count; i++) {
                text.append(i == 0 ? "" : " ").append(c.cell(k, i));
            }
        }
        return text.toString();
    }

    /** What lies beside the sides of all cells, in the same form. */
    static String besidesOf(CircleCells c) {
        StringBuilder text = new StringBuilder();
        int cells = c.cells();
        for (int k = 0; k < cells; k++) {
            text.append(k == 0 ? "" : ", ");
            int count = c.cell(k, -1);
            for (int i = 0; i < count; i++) {
                text.append(i == 0 ? "" : " ").append(c.beside(k, i));
            }
        }
        return text.toString();
    }

    /** The hull as "0 1 2". */
    static String hullOf(CircleCells c) {
        StringBuilder text = new StringBuilder();
        int count = c.hull(-1);
        for (int i = 0; i < count; i++) {
            text.append(i == 0 ? "" : " ").append(c.hull(i));
        }
        return text.toString();
    }

    /** A cell's centre as "X Y D". */
    static String centreOf(CircleCells c, int cell) {
        return c.centre(cell, 0) + " " + c.centre(cell, 1) + " " + c.centre(cell, 2);
    }

    /** All places by number, as "x y, x y". */
    static String sitesOf(CircleCells c, int count) {
        StringBuilder text = new StringBuilder();
        for (int s = 0; s < count; s++) {
            text.append(s == 0 ? "" : ", ").append(c.where(s, 0)).append(' ').append(c.where(s, 1));
        }
        return text.toString();
    }

    static void end(String test) {
        System.out.println(test + (wrong == 0 ? ": all answers are as due" : ": " + wrong + " answers are not as due"));
        if (wrong != 0) {
            System.exit(1);
        }
    }
}
