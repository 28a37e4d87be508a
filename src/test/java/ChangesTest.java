import java.util.ArrayList;
import java.util.List;

/**
 * Promises 2 to 5 with 6 to 13: each question tells of a change at once, also as
 * the first one behind it, and no question changes anything.
 */
public final class ChangesTest {
    private static final int[] BASE = {0, 0, 8, 0, 8, 8, 0, 8, 5, 5};

    private interface Ask {
        long of(CircleCells c);
    }

    public static void main(String[] args) {
        after("site", c -> c.site(-6, 3), 0, 0, 8, 0, 8, 8, 0, 8, 5, 5, -6, 3);
        after("remove of the first", c -> c.remove(0), 8, 0, 8, 8, 0, 8, 5, 5);
        after("remove between", c -> c.remove(2), 0, 0, 8, 0, 0, 8, 5, 5);
        after("move", c -> c.move(4, 20, 4), 0, 0, 8, 0, 8, 8, 0, 8, 20, 4);
        after("clear", c -> c.clear());
        questionsChangeNothing();
        Check.end("ChangesTest");
    }

    private static void after(String name, Check.Use change, int... places) {
        for (List<Ask> kind : questions()) {
            boolean seen = false;
            for (Ask ask : kind) {
                CircleCells c = Check.with(BASE);
                String before = answer(ask, c);
                change.run(c);
                String want = answer(ask, Check.with(places));
                Check.due("the first question after " + name, answer(ask, c), want);
                CircleCells unasked = Check.with(BASE);
                change.run(unasked);
                Check.due("the first question at all, after " + name, answer(ask, unasked), want);
                seen |= !want.equals(before);
            }
            Check.holds("one answer of each kind differs after " + name + ", or the test says nothing", seen);
        }
    }

    private static String answer(Ask ask, CircleCells c) {
        try {
            return "" + ask.of(c);
        } catch (RuntimeException e) {
            return e.getClass().getName();
        }
    }

    /** One list for each kind of question: where, cells, cell, beside, centre, hull, around, nearest. */
    private static List<List<Ask>> questions() {
        List<Ask> where = new ArrayList<>();
        List<Ask> cell = new ArrayList<>();
        List<Ask> beside = new ArrayList<>();
        List<Ask> centre = new ArrayList<>();
        List<Ask> hull = new ArrayList<>();
        for (int one = 0; one < 6; one++) {
            for (int two = -1; two < 4; two++) {
                int k = one;
                int i = two;
                where.add(c -> c.where(k, i));
                cell.add(c -> c.cell(k, i));
                beside.add(c -> c.beside(k, i));
                centre.add(c -> c.centre(k, i));
            }
            int i = one - 1;
            hull.add(c -> c.hull(i));
        }
        List<Ask> around = new ArrayList<>();
        List<Ask> nearest = new ArrayList<>();
        for (int[] p : new int[][] {{0, 0}, {1, 4}, {4, 4}, {7, 5}, {-5, 3}, {-2, 15}, {4, 7}}) {
            around.add(c -> c.around(p[0], p[1]));
            nearest.add(c -> c.nearest(p[0], p[1]));
        }
        Ask cells = c -> c.cells();
        return List.of(where, List.of(cells), cell, beside, centre, hull, around, nearest);
    }

    private static void questionsChangeNothing() {
        for (List<Ask> kind : questions()) {
            CircleCells c = Check.with(BASE);
            for (Ask ask : kind) {
                String first = answer(ask, c);
                Check.due("the same question once more", answer(ask, c), first);
            }
            Check.due("all answers behind the questions", Check.stateOf(c), Check.stateOf(Check.with(BASE)));
        }
    }
}
