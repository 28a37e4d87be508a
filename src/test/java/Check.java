/** What the tests share: counts the answers that are not as due, and makes objects with sites. */
final class Check {
    private static int wrong = 0;

    interface Call {
        void run();
    }

    private Check() {
    }

    static void due(String call, long got, long want) {
        if (got != want) {
            report(call + " answered " + got + ", due is " + want);
        }
    }

    static void due(String call, String got, String want) {
        if (!got.equals(want)) {
            report(call + " answered " + got + ", due is " + want);
        }
    }

    static void dueThrow(String name, Class<? extends RuntimeException> want, Call call) {
        String got = "nothing";
        try {
            call.run();
        } catch (RuntimeException e) {
            got = e.getClass().getSimpleName();
        }
        due(name + " throws", got, want.getSimpleName());
    }

    static void report(String text) {
        wrong++;
        System.out.println(text);
    }

    /** A new object with the sites x0, y0, x1, y1, .. */
    static CircleCells with(int... places) {
        CircleCells made = new CircleCells();
        for (int i = 0; i < places.length; i += 2) {
            due("site(" + places[i] + ", " + places[i + 1] + ")", made.site(places[i], places[i + 1]), i / 2);
        }
        return made;
    }

    /** All cells as "0 1 2, 0 2 3". */
    static String cellsOf(CircleCells c) {
        StringBuilder text = new StringBuilder();
        for (int k = 0; k < c.cells(); k++) {
            text.append(k == 0 ? "" : ", ");
            for (int i = 0; i < c.cell(k, -1); i++) {
                text.append(i == 0 ? "" : " ").append(c.cell(k, i));
            }
        }
        return text.toString();
    }

    /** What lies beside the sides of all cells, in the same form. */
    static String besidesOf(CircleCells c) {
        StringBuilder text = new StringBuilder();
        for (int k = 0; k < c.cells(); k++) {
            text.append(k == 0 ? "" : ", ");
            for (int i = 0; i < c.cell(k, -1); i++) {
                text.append(i == 0 ? "" : " ").append(c.beside(k, i));
            }
        }
        return text.toString();
    }

    /** The hull as "0 1 2". */
    static String hullOf(CircleCells c) {
        StringBuilder text = new StringBuilder();
        for (int i = 0; i < c.hull(-1); i++) {
            text.append(i == 0 ? "" : " ").append(c.hull(i));
        }
        return text.toString();
    }

    /** A cell's centre as "X Y D". */
    static String centreOf(CircleCells c, int cell) {
        return c.centre(cell, 0) + " " + c.centre(cell, 1) + " " + c.centre(cell, 2);
    }

    /** All places by number, as "x y, x y". */
    static String sitesOf(CircleCells c, int count) {
        StringBuilder text = new StringBuilder();
        for (int s = 0; s < count; s++) {
            text.append(s == 0 ? "" : ", ").append(c.where(s, 0)).append(' ').append(c.where(s, 1));
        }
        return text.toString();
    }

    static void end(String test) {
        System.out.println(test + (wrong == 0 ? ": all answers are as due" : ": " + wrong + " answers are not as due"));
        if (wrong != 0) {
            System.exit(1);
        }
    }
}
