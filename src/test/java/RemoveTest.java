/** Promise 3: remove. Each test bears the document's sentence that it tells. */
public final class RemoveTest {
    public static void main(String[] args) {
        aSiteIsGone();
        theOnlyOne();
        oneLessEach();
        allOfTwenty();
        thereIsNone();
        noneOfNone();
        theLastNumberTwice();
        Check.end("RemoveTest");
    }

    /** "A site is gone" */
    private static void aSiteIsGone() {
        CircleCells c = Check.with(Check.squareAndMiddle());
        c.remove(4);
        Check.due("all answers without the middle", Check.stateOf(c), Check.stateOf(Check.with(0, 0, 4, 0, 4, 4, 0, 4)));
        c.remove(0);
        Check.due("all answers without the first", Check.stateOf(c), Check.stateOf(Check.with(4, 0, 4, 4, 0, 4)));
        c.remove(1);
        Check.due("all answers of two", Check.stateOf(c), Check.stateOf(Check.with(4, 0, 0, 4)));
    }

    private static void theOnlyOne() {
        CircleCells c = Check.with(3, 4);
        c.remove(0);
        Check.due("sites after the only one is gone", Check.siteCount(c), 0);
        Check.dueThrow("nearest after the only one is gone", IllegalStateException.class, () -> c.nearest(3, 4));
        Check.due("its place is free: site(3, 4)", c.site(3, 4), 0);
    }

    /** "those with greater numbers have one less each", and those with lower ones keep theirs. */
    private static void oneLessEach() {
        String[] after = {"1 0, 2 0, 3 1", "0 0, 2 0, 3 1", "0 0, 1 0, 3 1", "0 0, 1 0, 2 0"};
        for (int s = 0; s < 4; s++) {
            CircleCells c = Check.with(0, 0, 1, 0, 2, 0, 3, 1);
            c.remove(s);
            Check.due("sites after remove(" + s + ")", Check.sitesOf(c, 3), after[s]);
            Check.due("how many after remove(" + s + ")", Check.siteCount(c), 3);
        }
        CircleCells c = Check.with(Check.squareAndMiddle());
        c.remove(1);
        Check.due("cells by the numbers after remove(1)", Check.cellsOf(c), "0 3 2, 1 2 3");
        Check.due("hull by the numbers after remove(1)", Check.hullOf(c), "0 3 1 2");
        Check.due("nearest by the numbers after remove(1)", c.nearest(2, 2), 3);
    }

    private static void allOfTwenty() {
        CircleCells first = Check.with(Check.twentyPlaces());
        CircleCells last = Check.with(Check.twentyPlaces());
        for (int left = 19; left >= 0; left--) {
            first.remove(0);
            last.remove(left);
            int leftOver = left;
            Check.dueThrow("the first gone: where(" + left + ", 0)", IllegalArgumentException.class,
                () -> first.where(leftOver, 0));
            Check.dueThrow("the last gone: where(" + left + ", 0)", IllegalArgumentException.class,
                () -> last.where(leftOver, 0));
            if (left > 0) {
                Check.due("the first gone: x of the last one", first.where(left - 1, 0), 12);
                Check.due("the last gone: x of the first one", last.where(0, 0), 0);
            }
        }
        Check.due("cells when all are gone", first.cells() + last.cells(), 0);
    }

    /** "IllegalArgumentException: there is none" */
    private static void thereIsNone() {
        for (int s : new int[] {-1, 5, 6, 19, 20, Integer.MAX_VALUE, Integer.MIN_VALUE}) {
            Check.dueRefused("remove(" + s + ") of 5", IllegalArgumentException.class, Check.squareAndMiddle(),
                c -> c.remove(s));
        }
        for (int s : new int[] {-1, 20, 21}) {
            Check.dueRefused("remove(" + s + ") of 20", IllegalArgumentException.class, Check.twentyPlaces(),
                c -> c.remove(s));
        }
    }

    private static void noneOfNone() {
        for (int s : new int[] {-1, 0, 1}) {
            Check.dueRefused("remove(" + s + ") of none", IllegalArgumentException.class, new int[0], c -> c.remove(s));
        }
        CircleCells c = Check.with(0, 0, 1, 1);
        c.clear();
        Check.dueThrow("remove(0) after clear()", IllegalArgumentException.class, () -> c.remove(0));
    }

    private static void theLastNumberTwice() {
        CircleCells c = Check.with(0, 0, 4, 0, 0, 4);
        c.remove(2);
        Check.dueThrow("remove(2) once more", IllegalArgumentException.class, () -> c.remove(2));
        Check.due("sites after it", Check.siteCount(c), 2);
    }
}
