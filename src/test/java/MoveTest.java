/** Promise 4: move. Each test bears the document's sentence that it tells. */
public final class MoveTest {
    public static void main(String[] args) {
        aSiteGoesToAnotherPlace();
        toTheEdges();
        toItsOwnPlace();
        toAPlaceThatWasLeft();
        withTwenty();
        thereIsNone();
        notSo();
        anotherSiteIsThere();
        Check.end("MoveTest");
    }

    /** "A site goes to another place": it keeps its number, and the others theirs. */
    private static void aSiteGoesToAnotherPlace() {
        String[] after = {"9 7, 4 0, 0 4", "0 0, 9 7, 0 4", "0 0, 4 0, 9 7"};
        for (int s = 0; s < 3; s++) {
            CircleCells c = Check.with(0, 0, 4, 0, 0, 4);
            Check.due("centre before the move", Check.centreOf(c, 0), "2 2 1");
            c.move(s, 9, 7);
            Check.due("sites after move(" + s + ", 9, 7)", Check.sitesOf(c, 3), after[s]);
            Check.due("how many after it", Check.siteCount(c), 3);
        }
        CircleCells c = Check.with(0, 0, 4, 0, 0, 4);
        c.move(0, 4, 4);
        Check.due("all answers after a move", Check.stateOf(c), Check.stateOf(Check.with(4, 4, 4, 0, 0, 4)));
        c.move(2, 4, 9);
        Check.due("all answers when all are on a line", Check.stateOf(c), Check.stateOf(Check.with(4, 4, 4, 0, 4, 9)));
    }

    /** "from -400 to 400": the outermost are taken. */
    private static void toTheEdges() {
        CircleCells c = Check.with(0, 0, 1, 1);
        for (int[] p : Check.edges()) {
            c.move(1, p[0], p[1]);
            Check.due("sites after move(1, " + p[0] + ", " + p[1] + ")", Check.sitesOf(c, 2), "0 0, " + p[0] + " " + p[1]);
        }
    }

    /** "another site is there": the site itself is no other one. */
    private static void toItsOwnPlace() {
        int[] places = Check.squareAndMiddle();
        String before = Check.stateOf(Check.with(places));
        for (int s = 0; s < 5; s++) {
            CircleCells c = Check.with(places);
            c.move(s, places[2 * s], places[2 * s + 1]);
            Check.due("all answers after move(" + s + ") to its own place", Check.stateOf(c), before);
        }
    }

    private static void toAPlaceThatWasLeft() {
        CircleCells c = Check.with(0, 0, 4, 0);
        c.move(0, 9, 9);
        c.move(1, 0, 0);
        c.move(0, 4, 0);
        Check.due("two sites that have changed places", Check.sitesOf(c, 2), "4 0, 0 0");
        c.remove(0);
        c.move(0, 4, 0);
        Check.due("to the place of one that is gone", Check.sitesOf(c, 1), "4 0");
    }

    /** "there are 20" is no hindrance here. */
    private static void withTwenty() {
        CircleCells c = Check.with(Check.twentyPlaces());
        c.move(19, 400, 400);
        c.move(0, -400, 400);
        Check.due("the last of 20", c.where(19, 0), 400);
        Check.due("the first of 20", c.where(0, 0), -400);
        Check.due("still 20", Check.siteCount(c), 20);
    }

    /** "IllegalArgumentException: there is none" */
    private static void thereIsNone() {
        for (int s : new int[] {-1, 5, 6, 19, 20, Integer.MAX_VALUE, Integer.MIN_VALUE}) {
            Check.dueRefused("move(" + s + ", 1, 1) of 5", IllegalArgumentException.class, Check.squareAndMiddle(),
                c -> c.move(s, 1, 1));
        }
        for (int s : new int[] {-1, 20}) {
            Check.dueRefused("move(" + s + ", 1, 1) of 20", IllegalArgumentException.class, Check.twentyPlaces(),
                c -> c.move(s, 1, 1));
        }
        for (int s : new int[] {-1, 0}) {
            Check.dueRefused("move(" + s + ", 1, 1) of none", IllegalArgumentException.class, new int[0],
                c -> c.move(s, 1, 1));
        }
        CircleCells c = Check.with(0, 0, 4, 0);
        c.remove(0);
        Check.dueThrow("move(1, 1, 1) after remove", IllegalArgumentException.class, () -> c.move(1, 1, 1));
    }

    /** "x or y is not so" */
    private static void notSo() {
        for (int[] p : Check.outside()) {
            for (int s : new int[] {0, 4}) {
                Check.dueRefused("move(" + s + ", " + p[0] + ", " + p[1] + ")", IllegalArgumentException.class,
                    Check.squareAndMiddle(), c -> c.move(s, p[0], p[1]));
            }
        }
    }

    /** "or another site is there" */
    private static void anotherSiteIsThere() {
        int[] places = Check.squareAndMiddle();
        for (int s = 0; s < 5; s++) {
            for (int other = 0; other < 5; other++) {
                if (other != s) {
                    refusedOnto(places, s, other);
                }
            }
        }
        refusedOnto(Check.twentyPlaces(), 0, 19);
        refusedOnto(Check.twentyPlaces(), 19, 0);
    }

    private static void refusedOnto(int[] places, int site, int other) {
        int x = places[2 * other];
        int y = places[2 * other + 1];
        Check.dueRefused("move(" + site + ", " + x + ", " + y + ") onto site " + other, IllegalArgumentException.class,
            places, c -> c.move(site, x, y));
    }
}
