import java.math.BigInteger;
import java.util.ArrayList;
import java.util.Collections;
import java.util.Comparator;
import java.util.List;
import java.util.TreeMap;

/**
 * The document's terms worked out in another way than the program does it: by
 * all threes of sites, in numbers that can't overflow unseen.
 */
final class Oracle {
    private final List<int[]> sites;
    final List<List<Integer>> cells;
    final List<Integer> hull;

    Oracle(List<int[]> sites) {
        this.sites = sites;
        this.cells = findCells();
        this.hull = findHull();
    }

    int beside(int cell, int i) {
        int from = cells.get(cell).get(i);
        int to = siteAfter(cells.get(cell), i);
        for (int other = 0; other < cells.size(); other++) {
            if (other != cell && hasSide(cells.get(other), from, to)) {
                return other;
            }
        }
        return -1;
    }

    private static boolean hasSide(List<Integer> cell, int one, int two) {
        for (int i = 0; i < cell.size(); i++) {
            int from = cell.get(i);
            int to = siteAfter(cell, i);
            if (from == one && to == two || from == two && to == one) {
                return true;
            }
        }
        return false;
    }

    private static int siteAfter(List<Integer> cell, int i) {
        return cell.get((i + 1) % cell.size());
    }

    /** Where the bisectors between the last site and the two before it cross, by Cramer's rule. */
    long centre(int cell, int what) {
        List<Integer> on = cells.get(cell);
        BigInteger[] one = bisector(on.get(on.size() - 1), on.get(on.size() - 2));
        BigInteger[] two = bisector(on.get(on.size() - 1), on.get(on.size() - 3));
        BigInteger d = crossed(one, two, 0, 1);
        BigInteger x = crossed(one, two, 2, 1);
        BigInteger y = crossed(one, two, 0, 2);
        BigInteger divisor = x.gcd(y).gcd(d).multiply(BigInteger.valueOf(d.signum()));
        return (what == 0 ? x : what == 1 ? y : d).divide(divisor).longValueExact();
    }

    /** p, q, r of the line p x + q y = r. */
    private BigInteger[] bisector(int one, int two) {
        long x1 = sites.get(one)[0];
        long y1 = sites.get(one)[1];
        long x2 = sites.get(two)[0];
        long y2 = sites.get(two)[1];
        long[] line = {2 * (x2 - x1), 2 * (y2 - y1), x2 * x2 + y2 * y2 - x1 * x1 - y1 * y1};
        return new BigInteger[] {BigInteger.valueOf(line[0]), BigInteger.valueOf(line[1]), BigInteger.valueOf(line[2])};
    }

    private static BigInteger crossed(BigInteger[] one, BigInteger[] two, int i, int j) {
        return one[i].multiply(two[j]).subtract(one[j].multiply(two[i]));
    }

    int around(int x, int y) {
        int[] place = {x, y};
        for (int k = 0; k < cells.size(); k++) {
            List<Integer> cell = cells.get(k);
            boolean in = true;
            for (int i = 0; i < cell.size(); i++) {
                in &= turn(sites.get(cell.get(i)), sites.get(siteAfter(cell, i)), place) >= 0;
            }
            if (in) {
                return k;
            }
        }
        return -1;
    }

    int nearest(int x, int y) {
        TreeMap<Long, Integer> byDistance = new TreeMap<>();
        for (int s = sites.size() - 1; s >= 0; s--) {
            byDistance.put(square(sites.get(s), new int[] {x, y}), s);
        }
        return byDistance.firstEntry().getValue();
    }

    private static long square(int[] a, int[] b) {
        long dx = a[0] - b[0];
        long dy = a[1] - b[1];
        return dx * dx + dy * dy;
    }

    private static long turn(int[] a, int[] b, int[] c) {
        return (long) (b[0] - a[0]) * (c[1] - a[1]) - (long) (b[1] - a[1]) * (c[0] - a[0]);
    }

    private List<List<Integer>> findCells() {
        TreeMap<String, List<Integer>> found = new TreeMap<>();
        int n = sites.size();
        for (int a = 0; a < n; a++) {
            for (int b = a + 1; b < n; b++) {
                for (int c = a + 1; c < n; c++) {
                    if (turn(sites.get(a), sites.get(b), sites.get(c)) > 0) {
                        List<Integer> cell = cellThrough(a, b, c);
                        found.put(cell.toString(), cell);
                    }
                }
            }
        }
        found.remove("[]");
        List<List<Integer>> all = new ArrayList<>(found.values());
        all.sort(Oracle::compareSites);
        return all;
    }

    private static int compareSites(List<Integer> one, List<Integer> two) {
        for (int i = 0; i < Math.min(one.size(), two.size()); i++) {
            if (!one.get(i).equals(two.get(i))) {
                return Integer.compare(one.get(i), two.get(i));
            }
        }
        return Integer.compare(one.size(), two.size());
    }

    /** The sites on the circle through three that go left; none when there is one within. */
    private List<Integer> cellThrough(int a, int b, int c) {
        List<Integer> on = new ArrayList<>();
        for (int d = 0; d < sites.size(); d++) {
            long within = lifted(sites.get(a), sites.get(b), sites.get(c), sites.get(d));
            if (within > 0) {
                return new ArrayList<>();
            }
            if (within == 0) {
                on.add(d);
            }
        }
        return round(on);
    }

    /** Above 0 when d is within the circle: the classic determinant of the four, seen from d. */
    private static long lifted(int[] a, int[] b, int[] c, int[] d) {
        long[][] m = {lift(a, d), lift(b, d), lift(c, d)};
        long sum = 0;
        for (int i = 0; i < 3; i++) {
            int j = (i + 1) % 3;
            int k = (i + 2) % 3;
            long minor = Math.subtractExact(Math.multiplyExact(m[1][j], m[2][k]), Math.multiplyExact(m[1][k], m[2][j]));
            sum = Math.addExact(sum, Math.multiplyExact(m[0][i], minor));
        }
        return sum;
    }

    private static long[] lift(int[] p, int[] d) {
        return new long[] {p[0] - d[0], p[1] - d[1], square(p, d)};
    }

    /** By the angle about their common middle, which lies within the cell, then from the lowest on. */
    private List<Integer> round(List<Integer> on) {
        double mx = on.stream().mapToInt(s -> sites.get(s)[0]).average().getAsDouble();
        double my = on.stream().mapToInt(s -> sites.get(s)[1]).average().getAsDouble();
        on.sort(Comparator.comparingDouble(s -> Math.atan2(sites.get(s)[1] - my, sites.get(s)[0] - mx)));
        Collections.rotate(on, -on.indexOf(Collections.min(on)));
        return on;
    }

    private List<Integer> findHull() {
        List<Integer> way = new ArrayList<>();
        if (cells.isEmpty()) {
            return way;
        }
        int first = 0;
        while (onward(first) < 0) {
            first++;
        }
        int at = first;
        do {
            way.add(at);
            at = onward(at);
        } while (at != first && way.size() <= sites.size());
        return way;
    }

    /** The closest site that has none to the right of the way there. */
    private int onward(int from) {
        int best = -1;
        for (int to = 0; to < sites.size(); to++) {
            boolean closer = best < 0
                || square(sites.get(from), sites.get(to)) < square(sites.get(from), sites.get(best));
            if (to != from && closer && noneRight(from, to)) {
                best = to;
            }
        }
        return best;
    }

    private boolean noneRight(int from, int to) {
        for (int[] other : sites) {
            if (turn(sites.get(from), sites.get(to), other) < 0) {
                return false;
            }
        }
        return true;
    }
}
