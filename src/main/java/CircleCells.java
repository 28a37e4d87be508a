import java.util.Arrays;
import java.util.NoSuchElementException;

/**
 * Sites in a plane and the cells between them: circles through three sites or
 * more with none within. The document of its promises is ../shared/DOC.md.
 */
public final class CircleCells {
    private static final int MOST_SITES = 20;
    private static final int FARTHEST = 400;

    // Nothing makes more cells, or more sides in all, than triangles do whose
    // hull has three sites: there are 2n - 5 of them.
    private static final int MOST_CELLS = 2 * MOST_SITES - 5;
    private static final int MOST_SIDES = 3 * MOST_CELLS;

    private static final int NONE = -1;
    private static final int HOW_MANY = -1;

    private final Sites sites;
    private final Mosaic mosaic;
    private boolean stale;

    public CircleCells() {
        sites = new Sites();
        mosaic = new Mosaic(sites);
        stale = false;
    }

    public int site(int x, int y) throws IllegalArgumentException, IllegalStateException {
        requirePlace(x, y);
        if (sites.numberAt(x, y) != NONE) {
            throw new IllegalArgumentException("there is a site at the place");
        }
        if (sites.size >= MOST_SITES) {
            throw new IllegalStateException("there are 20 sites");
        }
        stale = true;
        return sites.append(x, y);
    }

    public void remove(int site) throws IllegalArgumentException {
        requireSite(site);
        stale = true;
        sites.drop(site);
    }

    public void move(int site, int x, int y) throws IllegalArgumentException {
        requireSite(site);
        requirePlace(x, y);
        int there = sites.numberAt(x, y);
        if (there != NONE && there != site) {
            throw new IllegalArgumentException("another site is there");
        }
        stale = true;
        sites.put(site, x, y);
    }

    public void clear() {
        stale = true;
        sites.dropAll();
    }

    public int where(int site, int what) throws IllegalArgumentException {
        requireSite(site);
        if (what != 0 && what != 1) {
            throw new IllegalArgumentException("what is 0 or 1");
        }
        return what == 0 ? sites.x[site] : sites.y[site];
    }

    public int cells() {
        refresh();
        return mosaic.cellCount;
    }

    public int cell(int cell, int i) throws NoSuchElementException, IndexOutOfBoundsException {
        refresh();
        requireCell(cell);
        int count = mosaic.sideCount(cell);
        if (i == HOW_MANY) {
            return count;
        }
        requireIndex(i, count);
        return mosaic.siteOf(cell, i);
    }

    public int beside(int cell, int i) throws NoSuchElementException, IndexOutOfBoundsException {
        refresh();
        requireCell(cell);
        requireIndex(i, mosaic.sideCount(cell));
        return mosaic.across(cell, i);
    }

    public long centre(int cell, int what) throws NoSuchElementException, IllegalArgumentException {
        if (what < 0 || what > 2) {
            throw new IllegalArgumentException("what is 0, 1 or 2");
        }
        refresh();
        requireCell(cell);
        return mosaic.circleOf(cell).middle(what);
    }

    public int hull(int i) throws IndexOutOfBoundsException {
        refresh();
        if (i == HOW_MANY) {
            return mosaic.rimCount;
        }
        requireIndex(i, mosaic.rimCount);
        return mosaic.rim[i];
    }

    public int around(int x, int y) throws IllegalArgumentException {
        requirePlace(x, y);
        refresh();
        return mosaic.firstWith(x, y);
    }

    public int nearest(int x, int y) throws IllegalArgumentException, IllegalStateException {
        requirePlace(x, y);
        if (sites.size == 0) {
            throw new IllegalStateException("there is no site");
        }
        return sites.closestTo(x, y);
    }

    private static void requirePlace(int x, int y) {
        if (x < -FARTHEST || x > FARTHEST || y < -FARTHEST || y > FARTHEST) {
            throw new IllegalArgumentException("x and y are from -400 to 400");
        }
    }

    private void requireSite(int site) {
        if (site < 0 || site >= sites.size) {
            throw new IllegalArgumentException("no such site");
        }
    }

    private void requireCell(int cell) {
        if (cell < 0 || cell >= mosaic.cellCount) {
            throw new NoSuchElementException("no such cell");
        }
    }

    private static void requireIndex(int i, int count) {
        if (i < 0 || i >= count) {
            throw new IndexOutOfBoundsException("no such i");
        }
    }

    // Changes often come many at a time, so the cells wait until one asks for them.
    private void refresh() {
        if (stale) {
            mosaic.build();
            stale = false;
        }
    }

    /** The sites by number. */
    private static final class Sites {
        final int[] x = new int[MOST_SITES];
        final int[] y = new int[MOST_SITES];
        int size = 0;

        int append(int px, int py) {
            int number = size;
            put(number, px, py);
            size++;
            return number;
        }

        void put(int site, int px, int py) {
            x[site] = px;
            y[site] = py;
        }

        void drop(int site) {
            for (int next = site + 1; next < size; next++) {
                put(next - 1, x[next], y[next]);
            }
            size--;
        }

        void dropAll() {
            size = 0;
        }

        int numberAt(int px, int py) {
            for (int s = 0; s < size; s++) {
                if (x[s] == px && y[s] == py) {
                    return s;
                }
            }
            return NONE;
        }

        int closestTo(int px, int py) {
            int best = 0;
            for (int s = 1; s < size; s++) {
                if (squareTo(s, px, py) < squareTo(best, px, py)) {
                    best = s;
                }
            }
            return best;
        }

        private int squareTo(int s, int px, int py) {
            int dx = x[s] - px;
            int dy = y[s] - py;
            return dx * dx + dy * dy;
        }

        /** Above 0 when a, b and the place go left, below 0 when right. */
        int turn(int a, int b, int px, int py) {
            return (x[b] - x[a]) * (py - y[a]) - (y[b] - y[a]) * (px - x[a]);
        }

        int turn(int a, int b, int c) {
            return turn(a, b, x[c], y[c]);
        }
    }

    /**
     * A circle through three sites that go left. It is held as seen from the
     * first of them, in whole numbers, so that no answer is rounded: the centre
     * is (fromX + aimX / span, fromY + aimY / span).
     */
    private static final class Circle {
        private int fromX;
        private int fromY;
        private long aimX;
        private long aimY;
        private long span;

        void layThrough(Sites sites, int a, int b, int c) {
            fromX = sites.x[a];
            fromY = sites.y[a];
            long bx = sites.x[b] - fromX;
            long by = sites.y[b] - fromY;
            long cx = sites.x[c] - fromX;
            long cy = sites.y[c] - fromY;
            long bb = bx * bx + by * by;
            long cc = cx * cx + cy * cy;
            aimX = cy * bb - by * cc;
            aimY = bx * cc - cx * bb;
            span = 2 * (bx * cy - by * cx);
        }

        /** Below 0 for a place within, 0 for one on the circle, above 0 outside. */
        long power(int px, int py) {
            long dx = px - fromX;
            long dy = py - fromY;
            return (dx * dx + dy * dy) * span - 2 * (dx * aimX + dy * aimY);
        }

        /** X (what 0), Y (1) or D (2) of the centre in lowest terms. */
        long middle(int what) {
            long wholeX = fromX * span + aimX;
            long wholeY = fromY * span + aimY;
            long wanted = what == 0 ? wholeX : what == 1 ? wholeY : span;
            long shared = commonDivisor(span, commonDivisor(Math.abs(wholeX), Math.abs(wholeY)));
            return shared > 1 ? wanted / shared : wanted;
        }

        private static long commonDivisor(long a, long b) {
            // Two steps halve the greater number at least, so 128 steps do for any long.
            for (int step = 0; step < 128 && b != 0; step++) {
                long rest = a % b;
                a = b;
                b = rest;
            }
            return a;
        }
    }

    /** The cells of the sites and their hull, as they were when last built. */
    private static final class Mosaic {
        private final Sites sites;
        private final Circle circle = new Circle();

        // The sites of cell k stand in ring from start[k] up to start[k + 1].
        private final int[] ring = new int[MOST_SIDES];
        private final int[] start = new int[MOST_CELLS + 1];
        // The cell that has a side from one site to another, by sideKey.
        private final int[] owner = new int[MOST_SITES * MOST_SITES];
        int cellCount = 0;

        final int[] rim = new int[MOST_SITES];
        int rimCount = 0;

        Mosaic(Sites sites) {
            this.sites = sites;
        }

        // Only one cell lies left of a side, so its first two sites name a cell,
        // and going through them in order finds the cells in theirs.
        void build() {
            cellCount = 0;
            Arrays.fill(owner, NONE);
            for (int a = 0; a < sites.size; a++) {
                for (int b = a + 1; b < sites.size; b++) {
                    if (layLeftOf(a, b) && beginsCell(a, b)) {
                        addCell(a);
                    }
                }
            }
            walkRim();
        }

        // Of the circles through a and b and a site left of them, the one laid in
        // the end has no site of that hand within. False when no site is there.
        private boolean layLeftOf(int a, int b) {
            boolean laid = false;
            for (int c = 0; c < sites.size; c++) {
                if (sites.turn(a, b, c) > 0 && (!laid || powerOf(c) < 0)) {
                    circle.layThrough(sites, a, b, c);
                    laid = true;
                }
            }
            return laid;
        }

        private boolean beginsCell(int a, int b) {
            for (int s = 0; s < sites.size; s++) {
                long power = powerOf(s);
                boolean comesBefore = s < a || sites.turn(a, b, s) < 0;
                if (power < 0 || power == 0 && comesBefore) {
                    return false;
                }
            }
            return true;
        }

        private long powerOf(int site) {
            return circle.power(sites.x[site], sites.y[site]);
        }

        private void addCell(int lowest) {
            if (cellCount >= MOST_CELLS) {
                return;
            }
            int first = start[cellCount];
            int end = first;
            for (int s = lowest; s < sites.size && end < MOST_SIDES; s++) {
                if (powerOf(s) == 0) {
                    insertRound(first, end, s);
                    end++;
                }
            }
            start[cellCount + 1] = end;
            claimSides(cellCount);
            cellCount++;
        }

        private void insertRound(int first, int end, int site) {
            int slot = end;
            while (slot > first + 1 && sites.turn(ring[first], ring[slot - 1], site) < 0) {
                ring[slot] = ring[slot - 1];
                slot--;
            }
            ring[slot] = site;
        }

        private void claimSides(int cell) {
            int count = sideCount(cell);
            for (int i = 0; i < count; i++) {
                owner[sideKey(siteOf(cell, i), siteAfter(cell, i))] = cell;
            }
        }

        private static int sideKey(int from, int to) {
            return from * MOST_SITES + to;
        }

        private void walkRim() {
            rimCount = 0;
            int first = firstOnRim();
            int at = first;
            while (at != NONE && rimCount < MOST_SITES) {
                rim[rimCount] = at;
                rimCount++;
                int next = nextOnRim(at);
                at = next == first ? NONE : next;
            }
        }

        private int firstOnRim() {
            for (int s = 0; s < sites.size; s++) {
                if (nextOnRim(s) != NONE) {
                    return s;
                }
            }
            return NONE;
        }

        private int nextOnRim(int from) {
            for (int to = 0; to < sites.size; to++) {
                if (owner[sideKey(from, to)] != NONE && owner[sideKey(to, from)] == NONE) {
                    return to;
                }
            }
            return NONE;
        }

        int sideCount(int cell) {
            return start[cell + 1] - start[cell];
        }

        int siteOf(int cell, int i) {
            return ring[start[cell] + i];
        }

        private int siteAfter(int cell, int i) {
            return siteOf(cell, i + 1 < sideCount(cell) ? i + 1 : 0);
        }

        int across(int cell, int i) {
            return owner[sideKey(siteAfter(cell, i), siteOf(cell, i))];
        }

        Circle circleOf(int cell) {
            circle.layThrough(sites, siteOf(cell, 0), siteOf(cell, 1), siteOf(cell, 2));
            return circle;
        }

        int firstWith(int px, int py) {
            for (int cell = 0; cell < cellCount; cell++) {
                if (holds(cell, px, py)) {
                    return cell;
                }
            }
            return NONE;
        }

        private boolean holds(int cell, int px, int py) {
            int count = sideCount(cell);
            for (int i = 0; i < count; i++) {
                if (sites.turn(siteOf(cell, i), siteAfter(cell, i), px, py) < 0) {
                    return false;
                }
            }
            return true;
        }
    }
}
