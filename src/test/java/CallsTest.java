/**
 * "An object is used for at most 512 calls after it has been made": up to the
 * 512th one the answers are as due, whatever the calls before it were.
 */
public final class CallsTest {
    private static final int CALLS = 512;

    public static void main(String[] args) {
        siteAndClear();
        siteAndRemove();
        refusedCalls();
        moveAndCells();
        questions();
        Check.end("CallsTest");
    }

    private static void siteAndClear() {
        CircleCells c = new CircleCells();
        for (int call = 2; call <= CALLS; call += 2) {
            c.clear();
            Check.due("call " + call + ": site(1, 2)", c.site(1, 2), 0);
        }
    }

    private static void siteAndRemove() {
        CircleCells c = Check.with(Check.twentyPlaces());
        for (int call = 22; call <= CALLS; call += 2) {
            c.remove(call % 20);
            Check.due("call " + call + ": site", c.site(call - 400, 100 + call % 7), 19);
        }
    }

    private static void refusedCalls() {
        CircleCells c = Check.with(Check.twentyPlaces());
        for (int call = 21; call < CALLS; call++) {
            Check.dueThrow("call " + call + ": site(1, 1)", IllegalStateException.class, () -> c.site(1, 1));
        }
        Check.due("call 512: where(19, 0)", c.where(19, 0), 12);
    }

    private static void moveAndCells() {
        CircleCells c = Check.with(0, 0, 8, 0, 8, 8, 0, 8, 4, 4, 1, 0);
        c.remove(5);
        c.move(4, 4, 4);
        for (int call = 10; call <= CALLS; call += 2) {
            boolean within = call % 4 == 0;
            c.move(4, 4, within ? 5 : 8);
            Check.due("call " + call + ": cells()", c.cells(), within ? 4 : 3);
        }
    }

    private static void questions() {
        CircleCells c = Check.with(Check.squareAndMiddle());
        for (int call = 6; call < CALLS - 1; call++) {
            Check.due("call " + call + ": around(2, 1)", c.around(2, 1), 0);
        }
        c.remove(4);
        Check.due("call 512: cell(0, -1)", c.cell(0, -1), 4);
    }
}
